/-! BOUND, asked of both: the whole -/
section Bw
variable {M0 M N : am_M} {g : am_G} {F : am_FT}
theorem b_bound (hF : F = am_F T0 g) (hg : GG g) (hI : Inv M) {a b hour s : Int} (a1 : -2147483648 ≤ a) (a2 : a < 2147483648) (b1 : -2147483648 ≤ b) (b2 : b < 2147483648) (u1 : -2147483648 ≤ hour) (u2 : hour < 2147483648) (s1 : -2147483648 ≤ s) (s2 : s < 2147483648) :
    ∃ (r : Int) (M1 M2 : am_M), F 241 0 [.ref 0, .int (iI a), .int (iI b), .int (iI hour), .int (iI s)] [] M = some (some (.int (iI r)), M1) ∧ F 258 0 [.ref 219, .int (iI a), .int (iI b), .int (iI hour), .int (iI s)] [] M1 = some (some (.int (iI r)), M2) ∧ Inv M2 := by
  have hI' := hI
  obtain ⟨h1, h2, h3, h4, h5, h6, h7, h8, h9, h10, h11, h12, h13, h14, h15, h16, h17, h18, h19, hm, ht⟩ := hI
  have hd := h4.1
  have h81 := h8.1
  have e180 := h8.2
  have hn := h2.1
  have hA := Ag.refl M
  by_cases q1 : (a < 0 ∨ nD M - 1 < a) ∨ b < 0 ∨ nD M - 1 < b
  · refine ⟨-1, M, M, ?_, ?_, hI'⟩
    · refine s_RunSayer_bound hF hg ?_
      simp (config := { maxSteps := 1000000 }) (disch := (first | omega | decide | assumption)) only [ltm_s, ok_n, rd_i, rd_j, fd_i, fd_j, wr_i, wr_j, fw_i, fw_j, ci_s, cj_s, cv_s, dv_n, dw_n, rt_1, rt_b, rt_20, rt_21, okb_0, okb_1, okb_b, nar_0, nar_1, nar_b, i_0, i_1, j_0, j_1, i_lit, j_lit, i_n, iI_add, iI_sub, iI_mul, iI_neg, jI_add, jI_sub, jI_mul, jI_neg, sh_1, an_1, xo_1, di_p, dj_p, i_64A, i_64, j_32, lq_ge, lq_lt, lq_le, lq_gt, lq_eq, i_lt, i_le, i_eq, j_eq, iI_A, jI_J, iI_b, iI_v, jI_v, ↓reduceIte, ite_true, ite_false, Int.reduceEq, Int.reduceLT, Int.reduceLE, Int.reduceAdd, Int.reduceSub, Int.reduceMul, Int.reduceNeg, not_true_eq_false, not_false_eq_true, c_noDoors hF hg hA h4, bI_t q1]
    · refine s_Model_bound hF hg ?_
      by_cases q2 : 0 ≤ a ∧ a ≤ nD M - 1
      · have q3 : ¬ (0 ≤ b ∧ b ≤ nD M - 1) := by omega
        simp (config := { maxSteps := 1000000 }) (disch := (first | omega | decide | assumption)) only [ltm_s, ok_n, rd_i, rd_j, fd_i, fd_j, wr_i, wr_j, fw_i, fw_j, ci_s, cj_s, cv_s, dv_n, dw_n, rt_1, rt_b, rt_20, rt_21, okb_0, okb_1, okb_b, nar_0, nar_1, nar_b, i_0, i_1, j_0, j_1, i_lit, j_lit, i_n, iI_add, iI_sub, iI_mul, iI_neg, jI_add, jI_sub, jI_mul, jI_neg, sh_1, an_1, xo_1, di_p, dj_p, i_64A, i_64, j_32, lq_ge, lq_lt, lq_le, lq_gt, lq_eq, i_lt, i_le, i_eq, j_eq, iI_A, jI_J, iI_b, iI_v, jI_v, ↓reduceIte, ite_true, ite_false, Int.reduceEq, Int.reduceLT, Int.reduceLE, Int.reduceAdd, Int.reduceSub, Int.reduceMul, Int.reduceNeg, not_true_eq_false, not_false_eq_true, m_isDoor hF hg hA h4, bI_t q2, bI_f q3]
      · simp (config := { maxSteps := 1000000 }) (disch := (first | omega | decide | assumption)) only [ltm_s, ok_n, rd_i, rd_j, fd_i, fd_j, wr_i, wr_j, fw_i, fw_j, ci_s, cj_s, cv_s, dv_n, dw_n, rt_1, rt_b, rt_20, rt_21, okb_0, okb_1, okb_b, nar_0, nar_1, nar_b, i_0, i_1, j_0, j_1, i_lit, j_lit, i_n, iI_add, iI_sub, iI_mul, iI_neg, jI_add, jI_sub, jI_mul, jI_neg, sh_1, an_1, xo_1, di_p, dj_p, i_64A, i_64, j_32, lq_ge, lq_lt, lq_le, lq_gt, lq_eq, i_lt, i_le, i_eq, j_eq, iI_A, jI_J, iI_b, iI_v, jI_v, ↓reduceIte, ite_true, ite_false, Int.reduceEq, Int.reduceLT, Int.reduceLE, Int.reduceAdd, Int.reduceSub, Int.reduceMul, Int.reduceNeg, not_true_eq_false, not_false_eq_true, m_isDoor hF hg hA h4, bI_f q2]
  have ma : 0 ≤ a ∧ a ≤ nD M - 1 := by omega
  have mb : 0 ≤ b ∧ b ≤ nD M - 1 := by omega
  by_cases q2 : a = b
  · refine ⟨-2, M, M, ?_, ?_, hI'⟩
    · subst q2
      refine s_RunSayer_bound hF hg ?_
      simp (config := { maxSteps := 1000000 }) (disch := (first | omega | decide | assumption)) only [ltm_s, ok_n, rd_i, rd_j, fd_i, fd_j, wr_i, wr_j, fw_i, fw_j, ci_s, cj_s, cv_s, dv_n, dw_n, rt_1, rt_b, rt_20, rt_21, okb_0, okb_1, okb_b, nar_0, nar_1, nar_b, i_0, i_1, j_0, j_1, i_lit, j_lit, i_n, iI_add, iI_sub, iI_mul, iI_neg, jI_add, jI_sub, jI_mul, jI_neg, sh_1, an_1, xo_1, di_p, dj_p, i_64A, i_64, j_32, lq_ge, lq_lt, lq_le, lq_gt, lq_eq, i_lt, i_le, i_eq, j_eq, iI_A, jI_J, iI_b, iI_v, jI_v, ↓reduceIte, ite_true, ite_false, Int.reduceEq, Int.reduceLT, Int.reduceLE, Int.reduceAdd, Int.reduceSub, Int.reduceMul, Int.reduceNeg, not_true_eq_false, not_false_eq_true, c_noDoors hF hg hA h4, bI_f q1]
    · subst q2
      refine s_Model_bound hF hg ?_
      simp (config := { maxSteps := 1000000 }) (disch := (first | omega | decide | assumption)) only [ltm_s, ok_n, rd_i, rd_j, fd_i, fd_j, wr_i, wr_j, fw_i, fw_j, ci_s, cj_s, cv_s, dv_n, dw_n, rt_1, rt_b, rt_20, rt_21, okb_0, okb_1, okb_b, nar_0, nar_1, nar_b, i_0, i_1, j_0, j_1, i_lit, j_lit, i_n, iI_add, iI_sub, iI_mul, iI_neg, jI_add, jI_sub, jI_mul, jI_neg, sh_1, an_1, xo_1, di_p, dj_p, i_64A, i_64, j_32, lq_ge, lq_lt, lq_le, lq_gt, lq_eq, i_lt, i_le, i_eq, j_eq, iI_A, jI_J, iI_b, iI_v, jI_v, ↓reduceIte, ite_true, ite_false, Int.reduceEq, Int.reduceLT, Int.reduceLE, Int.reduceAdd, Int.reduceSub, Int.reduceMul, Int.reduceNeg, not_true_eq_false, not_false_eq_true, m_isDoor hF hg hA h4, bI_t ma]
  by_cases q3 : hour < 0 ∨ 23 < hour
  · refine ⟨-2, M, M, ?_, ?_, hI'⟩
    · refine s_RunSayer_bound hF hg ?_
      simp (config := { maxSteps := 1000000 }) (disch := (first | omega | decide | assumption)) only [ltm_s, ok_n, rd_i, rd_j, fd_i, fd_j, wr_i, wr_j, fw_i, fw_j, ci_s, cj_s, cv_s, dv_n, dw_n, rt_1, rt_b, rt_20, rt_21, okb_0, okb_1, okb_b, nar_0, nar_1, nar_b, i_0, i_1, j_0, j_1, i_lit, j_lit, i_n, iI_add, iI_sub, iI_mul, iI_neg, jI_add, jI_sub, jI_mul, jI_neg, sh_1, an_1, xo_1, di_p, dj_p, i_64A, i_64, j_32, lq_ge, lq_lt, lq_le, lq_gt, lq_eq, i_lt, i_le, i_eq, j_eq, iI_A, jI_J, iI_b, iI_v, jI_v, ↓reduceIte, ite_true, ite_false, Int.reduceEq, Int.reduceLT, Int.reduceLE, Int.reduceAdd, Int.reduceSub, Int.reduceMul, Int.reduceNeg, not_true_eq_false, not_false_eq_true, c_noDoors hF hg hA h4, bI_f q1, q2, c_noHour hF hg, bI_t q3]
    · refine s_Model_bound hF hg ?_
      have q4 : ¬ (0 ≤ hour ∧ hour ≤ 23) := by omega
      simp (config := { maxSteps := 1000000 }) (disch := (first | omega | decide | assumption)) only [ltm_s, ok_n, rd_i, rd_j, fd_i, fd_j, wr_i, wr_j, fw_i, fw_j, ci_s, cj_s, cv_s, dv_n, dw_n, rt_1, rt_b, rt_20, rt_21, okb_0, okb_1, okb_b, nar_0, nar_1, nar_b, i_0, i_1, j_0, j_1, i_lit, j_lit, i_n, iI_add, iI_sub, iI_mul, iI_neg, jI_add, jI_sub, jI_mul, jI_neg, sh_1, an_1, xo_1, di_p, dj_p, i_64A, i_64, j_32, lq_ge, lq_lt, lq_le, lq_gt, lq_eq, i_lt, i_le, i_eq, j_eq, iI_A, jI_J, iI_b, iI_v, jI_v, ↓reduceIte, ite_true, ite_false, Int.reduceEq, Int.reduceLT, Int.reduceLE, Int.reduceAdd, Int.reduceSub, Int.reduceMul, Int.reduceNeg, not_true_eq_false, not_false_eq_true, m_isDoor hF hg hA h4, bI_t ma, bI_t mb, q2, m_isHour hF hg, bI_f q4]
  have q4 : 0 ≤ hour ∧ hour ≤ 23 := by omega
  have cs := c_noSheet hF hg (M := M) s1 s2
  have ms : ∀ X : am_M, F 53 0 [.int (iI s), .int (iI 0), .int (iI 3)] [] X = some (some (.int (iI (bI (0 ≤ s ∧ s ≤ 3)))), X) := fun X => m_inn (l := 0) (h := 3) hF hg s1 s2 (by omega) (by omega) (by omega) (by omega)
  have cd := c_noDoors hF hg hA h4 a1 a2 b1 b2
  rw [bI_f q1] at cd
  have ch := c_noHour hF hg (M := M) u1 u2
  rw [bI_f q3] at ch
  by_cases q5 : s < 0 ∨ 3 < s
  · rw [bI_t q5] at cs
    rw [bI_f (by omega)] at ms
    refine ⟨-2, M, M, ?_, ?_, hI'⟩
    · refine s_RunSayer_bound hF hg ?_
      simp (config := { maxSteps := 1000000 }) (disch := (first | omega | decide | assumption)) only [ltm_s, ok_n, rd_i, rd_j, fd_i, fd_j, wr_i, wr_j, fw_i, fw_j, ci_s, cj_s, cv_s, dv_n, dw_n, rt_1, rt_b, rt_20, rt_21, okb_0, okb_1, okb_b, nar_0, nar_1, nar_b, i_0, i_1, j_0, j_1, i_lit, j_lit, i_n, iI_add, iI_sub, iI_mul, iI_neg, jI_add, jI_sub, jI_mul, jI_neg, sh_1, an_1, xo_1, di_p, dj_p, i_64A, i_64, j_32, lq_ge, lq_lt, lq_le, lq_gt, lq_eq, i_lt, i_le, i_eq, j_eq, iI_A, jI_J, iI_b, iI_v, jI_v, ↓reduceIte, ite_true, ite_false, Int.reduceEq, Int.reduceLT, Int.reduceLE, Int.reduceAdd, Int.reduceSub, Int.reduceMul, Int.reduceNeg, not_true_eq_false, not_false_eq_true, cd, q2, ch, cs]
    · refine s_Model_bound hF hg ?_
      simp (config := { maxSteps := 1000000 }) (disch := (first | omega | decide | assumption)) only [ltm_s, ok_n, rd_i, rd_j, fd_i, fd_j, wr_i, wr_j, fw_i, fw_j, ci_s, cj_s, cv_s, dv_n, dw_n, rt_1, rt_b, rt_20, rt_21, okb_0, okb_1, okb_b, nar_0, nar_1, nar_b, i_0, i_1, j_0, j_1, i_lit, j_lit, i_n, iI_add, iI_sub, iI_mul, iI_neg, jI_add, jI_sub, jI_mul, jI_neg, sh_1, an_1, xo_1, di_p, dj_p, i_64A, i_64, j_32, lq_ge, lq_lt, lq_le, lq_gt, lq_eq, i_lt, i_le, i_eq, j_eq, iI_A, jI_J, iI_b, iI_v, jI_v, ↓reduceIte, ite_true, ite_false, Int.reduceEq, Int.reduceLT, Int.reduceLE, Int.reduceAdd, Int.reduceSub, Int.reduceMul, Int.reduceNeg, not_true_eq_false, not_false_eq_true, m_isDoor hF hg hA h4, bI_t ma, bI_t mb, q2, m_isHour hF hg, bI_t q4, ms]
  rw [bI_f q5] at cs
  rw [bI_t (by omega)] at ms
  obtain ⟨x1, x2, x3, x4, x5⟩ := h18 s (by omega) (by omega)
  have hns : (iI s).toNatClampNeg = s.toNat := iI_n (by omega) (by omega)
  by_cases q6 : A M 259 s = -1
  · refine ⟨-11, M, M, ?_, ?_, hI'⟩
    · refine s_RunSayer_bound hF hg ?_
      simp (config := { maxSteps := 1000000 }) (disch := (first | omega | decide | assumption)) only [ltm_s, ok_n, rd_i, rd_j, fd_i, fd_j, wr_i, wr_j, fw_i, fw_j, ci_s, cj_s, cv_s, dv_n, dw_n, rt_1, rt_b, rt_20, rt_21, okb_0, okb_1, okb_b, nar_0, nar_1, nar_b, i_0, i_1, j_0, j_1, i_lit, j_lit, i_n, iI_add, iI_sub, iI_mul, iI_neg, jI_add, jI_sub, jI_mul, jI_neg, sh_1, an_1, xo_1, di_p, dj_p, i_64A, i_64, j_32, lq_ge, lq_lt, lq_le, lq_gt, lq_eq, i_lt, i_le, i_eq, j_eq, iI_A, jI_J, iI_b, iI_v, jI_v, ↓reduceIte, ite_true, ite_false, Int.reduceEq, Int.reduceLT, Int.reduceLE, Int.reduceAdd, Int.reduceSub, Int.reduceMul, Int.reduceNeg, not_true_eq_false, not_false_eq_true, iI_n, rdn_i, rdn_j, wrn_i, wrn_j, cd, q2, ch, cs, x3, q6]
    · refine s_Model_bound hF hg ?_
      simp (config := { maxSteps := 1000000 }) (disch := (first | omega | decide | assumption)) only [ltm_s, ok_n, rd_i, rd_j, fd_i, fd_j, wr_i, wr_j, fw_i, fw_j, ci_s, cj_s, cv_s, dv_n, dw_n, rt_1, rt_b, rt_20, rt_21, okb_0, okb_1, okb_b, nar_0, nar_1, nar_b, i_0, i_1, j_0, j_1, i_lit, j_lit, i_n, iI_add, iI_sub, iI_mul, iI_neg, jI_add, jI_sub, jI_mul, jI_neg, sh_1, an_1, xo_1, di_p, dj_p, i_64A, i_64, j_32, lq_ge, lq_lt, lq_le, lq_gt, lq_eq, i_lt, i_le, i_eq, j_eq, iI_A, jI_J, iI_b, iI_v, jI_v, ↓reduceIte, ite_true, ite_false, Int.reduceEq, Int.reduceLT, Int.reduceLE, Int.reduceAdd, Int.reduceSub, Int.reduceMul, Int.reduceNeg, not_true_eq_false, not_false_eq_true, m_isDoor hF hg hA h4, bI_t ma, bI_t mb, q2, m_isHour hF hg, bI_t q4, ms, q6]
  by_cases q7 : A M 259 s = 2
  case neg =>
    refine ⟨-13, M, M, ?_, ?_, hI'⟩
    · refine s_RunSayer_bound hF hg ?_
      simp (config := { maxSteps := 1000000 }) (disch := (first | omega | decide | assumption)) only [ltm_s, ok_n, rd_i, rd_j, fd_i, fd_j, wr_i, wr_j, fw_i, fw_j, ci_s, cj_s, cv_s, dv_n, dw_n, rt_1, rt_b, rt_20, rt_21, okb_0, okb_1, okb_b, nar_0, nar_1, nar_b, i_0, i_1, j_0, j_1, i_lit, j_lit, i_n, iI_add, iI_sub, iI_mul, iI_neg, jI_add, jI_sub, jI_mul, jI_neg, sh_1, an_1, xo_1, di_p, dj_p, i_64A, i_64, j_32, lq_ge, lq_lt, lq_le, lq_gt, lq_eq, i_lt, i_le, i_eq, j_eq, iI_A, jI_J, iI_b, iI_v, jI_v, ↓reduceIte, ite_true, ite_false, Int.reduceEq, Int.reduceLT, Int.reduceLE, Int.reduceAdd, Int.reduceSub, Int.reduceMul, Int.reduceNeg, not_true_eq_false, not_false_eq_true, iI_n, rdn_i, rdn_j, wrn_i, wrn_j, cd, q2, ch, cs, x3, q6, q7]
    · refine s_Model_bound hF hg ?_
      simp (config := { maxSteps := 1000000 }) (disch := (first | omega | decide | assumption)) only [ltm_s, ok_n, rd_i, rd_j, fd_i, fd_j, wr_i, wr_j, fw_i, fw_j, ci_s, cj_s, cv_s, dv_n, dw_n, rt_1, rt_b, rt_20, rt_21, okb_0, okb_1, okb_b, nar_0, nar_1, nar_b, i_0, i_1, j_0, j_1, i_lit, j_lit, i_n, iI_add, iI_sub, iI_mul, iI_neg, jI_add, jI_sub, jI_mul, jI_neg, sh_1, an_1, xo_1, di_p, dj_p, i_64A, i_64, j_32, lq_ge, lq_lt, lq_le, lq_gt, lq_eq, i_lt, i_le, i_eq, j_eq, iI_A, jI_J, iI_b, iI_v, jI_v, ↓reduceIte, ite_true, ite_false, Int.reduceEq, Int.reduceLT, Int.reduceLE, Int.reduceAdd, Int.reduceSub, Int.reduceMul, Int.reduceNeg, not_true_eq_false, not_false_eq_true, m_isDoor hF hg hA h4, bI_t ma, bI_t mb, q2, m_isHour hF hg, bI_t q4, ms, q6, q7]
  have q67 : ¬ (2 : Int) = -1 := by omega
  have lc := c_legCount hF hg hA h2
  have e4 : A M 219 4 = nW M := rfl
  by_cases q8 : A M 260 s = 2 * nW M
  case neg =>
    refine ⟨-12, M, M, ?_, ?_, hI'⟩
    · refine s_RunSayer_bound hF hg ?_
      simp (config := { maxSteps := 1000000 }) (disch := (first | omega | decide | assumption)) only [ltm_s, ok_n, rd_i, rd_j, fd_i, fd_j, wr_i, wr_j, fw_i, fw_j, ci_s, cj_s, cv_s, dv_n, dw_n, rt_1, rt_b, rt_20, rt_21, okb_0, okb_1, okb_b, nar_0, nar_1, nar_b, i_0, i_1, j_0, j_1, i_lit, j_lit, i_n, iI_add, iI_sub, iI_mul, iI_neg, jI_add, jI_sub, jI_mul, jI_neg, sh_1, an_1, xo_1, di_p, dj_p, i_64A, i_64, j_32, lq_ge, lq_lt, lq_le, lq_gt, lq_eq, i_lt, i_le, i_eq, j_eq, iI_A, jI_J, iI_b, iI_v, jI_v, ↓reduceIte, ite_true, ite_false, Int.reduceEq, Int.reduceLT, Int.reduceLE, Int.reduceAdd, Int.reduceSub, Int.reduceMul, Int.reduceNeg, not_true_eq_false, not_false_eq_true, iI_n, rdn_i, rdn_j, wrn_i, wrn_j, cd, q2, ch, cs, x3, q7, q67, lc, x4, q8]
    · refine s_Model_bound hF hg ?_
      simp (config := { maxSteps := 1000000 }) (disch := (first | omega | decide | assumption)) only [ltm_s, ok_n, rd_i, rd_j, fd_i, fd_j, wr_i, wr_j, fw_i, fw_j, ci_s, cj_s, cv_s, dv_n, dw_n, rt_1, rt_b, rt_20, rt_21, okb_0, okb_1, okb_b, nar_0, nar_1, nar_b, i_0, i_1, j_0, j_1, i_lit, j_lit, i_n, iI_add, iI_sub, iI_mul, iI_neg, jI_add, jI_sub, jI_mul, jI_neg, sh_1, an_1, xo_1, di_p, dj_p, i_64A, i_64, j_32, lq_ge, lq_lt, lq_le, lq_gt, lq_eq, i_lt, i_le, i_eq, j_eq, iI_A, jI_J, iI_b, iI_v, jI_v, ↓reduceIte, ite_true, ite_false, Int.reduceEq, Int.reduceLT, Int.reduceLE, Int.reduceAdd, Int.reduceSub, Int.reduceMul, Int.reduceNeg, not_true_eq_false, not_false_eq_true, m_isDoor hF hg hA h4, bI_t ma, bI_t mb, q2, m_isHour hF hg, bI_t q4, ms, q7, q67, e4, q8]
  -- the class
  obtain ⟨N1, p1, k1, f1, -⟩ := c_setCity hF hg hA h2 h6 h7 hm (day := toD M) (hour := hour) (kn := toD M) (by omega) (by omega) (by omega) (by omega) (by omega) (by omega)
  have A1 : Ag M N1 := k1.ag (by decide)
  -- the model
  have ar := m_asReal (M := N1) hF hg (d := toD M) (h := hour) (k := toD M) (b := 1)
  obtain ⟨N2, e2⟩ : ∃ y : am_M, y = W_ (W_ (W_ (W_ (W_ N1 219 56 (-1)) 219 57 (toD M)) 219 58 hour) 219 59 (toD M)) 219 60 1 := ⟨_, rfl⟩
  rw [← e2] at ar
  have A2 : Ag M N2 := by rw [e2]; exact ((((A1.w rfl).w rfl).w rfl).w rfl).w rfl
  have c2 : Ch [] [(219, 56), (219, 57), (219, 58), (219, 59), (219, 60)] N1 N2 := by
    rw [e2]; exact ((((Ch.refl.wm (Or.inr (by decide))).wm (Or.inr (by decide))).wm (Or.inr (by decide))).wm (Or.inr (by decide))).wm (Or.inr (by decide))
  have sN : mset (-1, toD M, hour, toD M) N2 := by
    rw [e2]
    refine ⟨?_, fun _ => ⟨?_, ?_⟩, ?_⟩ <;> simp (config := { maxSteps := 1000000 }) (disch := (first | omega | decide | assumption)) only [ltm_s, ok_n, rd_i, rd_j, fd_i, fd_j, wr_i, wr_j, fw_i, fw_j, ci_s, cj_s, cv_s, dv_n, dw_n, rt_1, rt_b, rt_20, rt_21, okb_0, okb_1, okb_b, nar_0, nar_1, nar_b, i_0, i_1, j_0, j_1, i_lit, j_lit, i_n, iI_add, iI_sub, iI_mul, iI_neg, jI_add, jI_sub, jI_mul, jI_neg, sh_1, an_1, xo_1, di_p, dj_p, i_64A, i_64, j_32, lq_ge, lq_lt, lq_le, lq_gt, lq_eq, i_lt, i_le, i_eq, j_eq, iI_A, jI_J, iI_b, iI_v, jI_v, ↓reduceIte, ite_true, ite_false, Int.reduceEq, Int.reduceLT, Int.reduceLE, Int.reduceAdd, Int.reduceSub, Int.reduceMul, Int.reduceNeg, not_true_eq_false, not_false_eq_true, A_Wn, A_WA, A_Wb, A_Ws, A_Wo, A_X, J_W, J_Xn, J_XJ, J_Xs, J_Xo]
  have hmk : mok M (-1, toD M, hour, toD M) := ⟨⟨Int.le_refl _, by show (-1 : Int) < _; have := h15.1; omega, by show (-1 : Int) < 4; omega⟩, fun _ => ⟨⟨by show 0 ≤ toD M; omega, by show toD M < 300; omega⟩, by show 0 ≤ toD M; omega, by show toD M < 300; omega⟩, q4.1, by show hour < 24; omega⟩
  have isn : isSh g (210 + 2 * s.toNat) := sh_ok hg (by omega) (by omega)
  have hr : gK g (210 + 2 * s.toNat + 1) = (1, 100) := isn.2.2
  have hv : ∀ f : Int, 0 ≤ f → f < 2 * nW M → A N1 (210 + 2 * s.toNat + 1) f = A M 261 (100 * s + f) := fun f f0 f1' => by
    rw [k1.a (by simp only [List.mem_cons, List.not_mem_nil, or_false]; omega)]
    exact x5 f f0 (by omega)
  have hw : ∀ f : Int, 0 ≤ f → f < 2 * nW M → A N2 261 (100 * s + f) = A M 261 (100 * s + f) := fun f f0 f1' => agA A2 rfl
  have wa := (h4.2.2 a ma.1 (by omega)).1
  have e11 : A N1 11 a = A M 228 a := (agA A1 rfl).trans (r11 h4 ma.1 (by omega))
  obtain ⟨x, z1, z2⟩ := fw_l hF hg A1 A2 h1 h2 h3 h4 h6 h7 h8 h9 hmk f1 sN hr (a := a) (b := b) (s := s) (v := fun f => A M 261 (100 * s + f)) ma.1 (by omega) mb.1 (by omega) (by omega) (by omega) hv hw (2 * nW M).toNat 0 (by omega)
  have fwr : F 168 0 [.ref 32, .ref (210 + 2 * s.toNat + 1), .int (iI b)] [] N1 = some (some (.int (iI x)), N1) := by
    refine s_Finder_firstWrong hF hg hr ?_
    exact z1
  have C : Ch [33, 34, 35, 36, 32] [(219, 56), (219, 57), (219, 58), (219, 59), (219, 60)] M N2 := (k1.ch.mono rfl).trans (c2.mono rfl)
  have im : Imk N2 := by
    unfold Imk
    simp only [c2.a (a := 32) rfl, c2.a (a := 35) rfl, c2.a (a := 36) rfl]
    exact f1.1
  have inv : Inv N2 := ⟨C.i1 rfl h1, C.i2 rfl h2, C.i3 rfl h3, C.i4 rfl h4, C.i5 rfl h5, C.i6 rfl h6, C.i7 rfl h7, C.i8 rfl h8, C.i9 rfl h9, C.i10 rfl h10, C.i11 rfl h11, C.i12 rfl h12, C.i13 rfl h13, C.i14 rfl h14, C.i15 rfl h15, C.i16 rfl h16, C.i17 rfl h17, C.i18 rfl h18, C.i19 rfl h19, im, C.itd rfl ht⟩
  have g14 : A N1 219 14 = toD M := ag A1 rfl
  have g4 : A N1 219 4 = nW M := ag A1 rfl
  have g259 : A N1 259 s = 2 := (agA A1 rfl).trans q7
  have g260 : A N1 260 s = 2 * nW M := (agA A1 rfl).trans q8
  -- the model's first part
  have mpre : ∀ R : am_R, F 258 107 [.ref 219, .int (iI a), .int (iI b), .int (iI s), .int (iI 0)] [] N2 = some R → F 258 0 [.ref 219, .int (iI a), .int (iI b), .int (iI hour), .int (iI s)] [] N1 = some R := fun R hR => by
    refine s_Model_bound hF hg ?_
    simp (config := { maxSteps := 1000000 }) (disch := (first | omega | decide | assumption)) only [ltm_s, ok_n, rd_i, rd_j, fd_i, fd_j, wr_i, wr_j, fw_i, fw_j, ci_s, cj_s, cv_s, dv_n, dw_n, rt_1, rt_b, rt_20, rt_21, okb_0, okb_1, okb_b, nar_0, nar_1, nar_b, i_0, i_1, j_0, j_1, i_lit, j_lit, i_n, iI_add, iI_sub, iI_mul, iI_neg, jI_add, jI_sub, jI_mul, jI_neg, sh_1, an_1, xo_1, di_p, dj_p, i_64A, i_64, j_32, lq_ge, lq_lt, lq_le, lq_gt, lq_eq, i_lt, i_le, i_eq, j_eq, iI_A, jI_J, iI_b, iI_v, jI_v, ↓reduceIte, ite_true, ite_false, Int.reduceEq, Int.reduceLT, Int.reduceLE, Int.reduceAdd, Int.reduceSub, Int.reduceMul, Int.reduceNeg, not_true_eq_false, not_false_eq_true, m_isDoor hF hg A1 h4, bI_t ma, bI_t mb, q2, m_isHour hF hg, bI_t q4, ms, g259, q67, g260, g4, g14, ar]
    exact hR
  rcases z2 with ⟨rfl, z3⟩ | ⟨xr, z3⟩
  · -- all right: the least
    obtain ⟨y1, w1, r1, t1, v1⟩ := least_1 hF hg A1 A2 h2 h4 h6 hmk f1 sN hr (a := a) (b := b) (s := s) (e := 2 * A M 228 a) (x := FARC) (y := 1000000000000) (w := 2 * A M 228 a) (v := fun f => A M 261 (100 * s + f)) ma.1 (by omega) mb.1 (by omega) (by omega) (by omega) hv hw (by omega) rfl (Or.inl ⟨rfl, rfl⟩)
    obtain ⟨y2, w2, r2, t2, v2⟩ := least_1 hF hg A1 A2 h2 h4 h6 hmk f1 sN hr (a := a) (b := b) (s := s) (e := 2 * A M 228 a + 1) (x := y1) (y := w1) (w := 2 * A M 228 a) (v := fun f => A M 261 (100 * s + f)) ma.1 (by omega) mb.1 (by omega) (by omega) (by omega) hv hw (by omega) rfl r1
    have eF : FARC = 9223372036854775807 := rfl
    have lst : F 95 0 [.ref 32, .ref (210 + 2 * s.toNat + 1), .int (iI a), .int (iI b)] [] N1 = some (some (.long (jI y2)), N1) := by
      refine s_Finder_leastByProof hF hg hr ?_
      simp (config := { maxSteps := 1000000 }) (disch := (first | omega | decide | assumption)) only [ltm_s, ok_n, rd_i, rd_j, fd_i, fd_j, wr_i, wr_j, fw_i, fw_j, ci_s, cj_s, cv_s, dv_n, dw_n, rt_1, rt_b, rt_20, rt_21, okb_0, okb_1, okb_b, nar_0, nar_1, nar_b, i_0, i_1, j_0, j_1, i_lit, j_lit, i_n, iI_add, iI_sub, iI_mul, iI_neg, jI_add, jI_sub, jI_mul, jI_neg, sh_1, an_1, xo_1, di_p, dj_p, i_64A, i_64, j_32, lq_ge, lq_lt, lq_le, lq_gt, lq_eq, i_lt, i_le, i_eq, j_eq, iI_A, jI_J, iI_b, iI_v, jI_v, ↓reduceIte, ite_true, ite_false, Int.reduceEq, Int.reduceLT, Int.reduceLE, Int.reduceAdd, Int.reduceSub, Int.reduceMul, Int.reduceNeg, not_true_eq_false, not_false_eq_true, e11]
      refine t1 _ (t2 _ ?_)
      refine s_Finder_leastByProof_22 hF hg hr ?_
      have u : 2 * A M 228 a + 1 < 2 * A M 228 a + 1 + 1 := by omega
      simp (config := { maxSteps := 1000000 }) (disch := (first | omega | decide | assumption)) only [ltm_s, ok_n, rd_i, rd_j, fd_i, fd_j, wr_i, wr_j, fw_i, fw_j, ci_s, cj_s, cv_s, dv_n, dw_n, rt_1, rt_b, rt_20, rt_21, okb_0, okb_1, okb_b, nar_0, nar_1, nar_b, i_0, i_1, j_0, j_1, i_lit, j_lit, i_n, iI_add, iI_sub, iI_mul, iI_neg, jI_add, jI_sub, jI_mul, jI_neg, sh_1, an_1, xo_1, di_p, dj_p, i_64A, i_64, j_32, lq_ge, lq_lt, lq_le, lq_gt, lq_eq, i_lt, i_le, i_eq, j_eq, iI_A, jI_J, iI_b, iI_v, jI_v, ↓reduceIte, ite_true, ite_false, Int.reduceEq, Int.reduceLT, Int.reduceLE, Int.reduceAdd, Int.reduceSub, Int.reduceMul, Int.reduceNeg, not_true_eq_false, not_false_eq_true, u]
    have hu : 2 * A M 228 a + 1 < 2 * A M 228 a + 1 + 1 := by omega
    have h228 : A N2 228 a = A M 228 a := agA A2 rfl
    have big : (2147483647 : Int64) = jI 2147483647 := rfl
    by_cases qy : y2 = FARC
    · have qw : w2 = 1000000000000 := by
        unfold lrel at r2; omega
      refine ⟨-1, N1, N2, ?_, mpre _ (z3 _ (v1 _ (v2 _ ?_))), inv⟩
      · rw [qy, eF] at lst
        refine s_RunSayer_bound hF hg ?_
        simp (config := { maxSteps := 1000000 }) (disch := (first | omega | decide | assumption)) only [ltm_s, ok_n, rd_i, rd_j, fd_i, fd_j, wr_i, wr_j, fw_i, fw_j, ci_s, cj_s, cv_s, dv_n, dw_n, rt_1, rt_b, rt_20, rt_21, okb_0, okb_1, okb_b, nar_0, nar_1, nar_b, i_0, i_1, j_0, j_1, i_lit, j_lit, i_n, iI_add, iI_sub, iI_mul, iI_neg, jI_add, jI_sub, jI_mul, jI_neg, sh_1, an_1, xo_1, di_p, dj_p, i_64A, i_64, j_32, lq_ge, lq_lt, lq_le, lq_gt, lq_eq, i_lt, i_le, i_eq, j_eq, iI_A, jI_J, iI_b, iI_v, jI_v, ↓reduceIte, ite_true, ite_false, Int.reduceEq, Int.reduceLT, Int.reduceLE, Int.reduceAdd, Int.reduceSub, Int.reduceMul, Int.reduceNeg, not_true_eq_false, not_false_eq_true, iI_n, rdn_i, rdn_j, wrn_i, wrn_j, cd, q2, ch, cs, x3, q7, q67, lc, x4, q8, e180, p1, fwr, lst]
      · refine s_Model_bound_160 hF hg ?_
        rw [qw]
        simp (config := { maxSteps := 1000000 }) (disch := (first | omega | decide | assumption)) only [ltm_s, ok_n, rd_i, rd_j, fd_i, fd_j, wr_i, wr_j, fw_i, fw_j, ci_s, cj_s, cv_s, dv_n, dw_n, rt_1, rt_b, rt_20, rt_21, okb_0, okb_1, okb_b, nar_0, nar_1, nar_b, i_0, i_1, j_0, j_1, i_lit, j_lit, i_n, iI_add, iI_sub, iI_mul, iI_neg, jI_add, jI_sub, jI_mul, jI_neg, sh_1, an_1, xo_1, di_p, dj_p, i_64A, i_64, j_32, lq_ge, lq_lt, lq_le, lq_gt, lq_eq, i_lt, i_le, i_eq, j_eq, iI_A, jI_J, iI_b, iI_v, jI_v, ↓reduceIte, ite_true, ite_false, Int.reduceEq, Int.reduceLT, Int.reduceLE, Int.reduceAdd, Int.reduceSub, Int.reduceMul, Int.reduceNeg, not_true_eq_false, not_false_eq_true, h228, hu]
    · have qw : y2 = w2 ∧ 0 ≤ y2 ∧ y2 ≤ 3000000000 := by
        unfold lrel at r2; omega
      obtain ⟨ew, yr⟩ := qw
      subst ew
      have n1 : ¬ y2 = 9223372036854775807 := by omega
      have n2 : ¬ y2 = 1000000000000 := by omega
      have mj := c_minJ hF hg (M := N1) (v := y2) (w := 2147483647) (by omega) (by omega) (by omega) (by omega)
      by_cases qb : y2 ≤ 2147483647
      · rw [if_neg (by omega)] at mj
        refine ⟨y2, N1, N2, ?_, mpre _ (z3 _ (v1 _ (v2 _ ?_))), inv⟩
        · refine s_RunSayer_bound hF hg ?_
          simp (config := { maxSteps := 1000000 }) (disch := (first | omega | decide | assumption)) only [ltm_s, ok_n, rd_i, rd_j, fd_i, fd_j, wr_i, wr_j, fw_i, fw_j, ci_s, cj_s, cv_s, dv_n, dw_n, rt_1, rt_b, rt_20, rt_21, okb_0, okb_1, okb_b, nar_0, nar_1, nar_b, i_0, i_1, j_0, j_1, i_lit, j_lit, i_n, iI_add, iI_sub, iI_mul, iI_neg, jI_add, jI_sub, jI_mul, jI_neg, sh_1, an_1, xo_1, di_p, dj_p, i_64A, i_64, j_32, lq_ge, lq_lt, lq_le, lq_gt, lq_eq, i_lt, i_le, i_eq, j_eq, iI_A, jI_J, iI_b, iI_v, jI_v, ↓reduceIte, ite_true, ite_false, Int.reduceEq, Int.reduceLT, Int.reduceLE, Int.reduceAdd, Int.reduceSub, Int.reduceMul, Int.reduceNeg, not_true_eq_false, not_false_eq_true, iI_n, rdn_i, rdn_j, wrn_i, wrn_j, cd, q2, ch, cs, x3, q7, q67, lc, x4, q8, e180, p1, fwr, lst, n1, mj]
        · refine s_Model_bound_160 hF hg ?_
          simp (config := { maxSteps := 1000000 }) (disch := (first | omega | decide | assumption)) only [ltm_s, ok_n, rd_i, rd_j, fd_i, fd_j, wr_i, wr_j, fw_i, fw_j, ci_s, cj_s, cv_s, dv_n, dw_n, rt_1, rt_b, rt_20, rt_21, okb_0, okb_1, okb_b, nar_0, nar_1, nar_b, i_0, i_1, j_0, j_1, i_lit, j_lit, i_n, iI_add, iI_sub, iI_mul, iI_neg, jI_add, jI_sub, jI_mul, jI_neg, sh_1, an_1, xo_1, di_p, dj_p, i_64A, i_64, j_32, lq_ge, lq_lt, lq_le, lq_gt, lq_eq, i_lt, i_le, i_eq, j_eq, iI_A, jI_J, iI_b, iI_v, jI_v, ↓reduceIte, ite_true, ite_false, Int.reduceEq, Int.reduceLT, Int.reduceLE, Int.reduceAdd, Int.reduceSub, Int.reduceMul, Int.reduceNeg, not_true_eq_false, not_false_eq_true, h228, hu, n2, qb]
      · rw [if_pos (by omega)] at mj
        refine ⟨2147483647, N1, N2, ?_, mpre _ (z3 _ (v1 _ (v2 _ ?_))), inv⟩
        · refine s_RunSayer_bound hF hg ?_
          simp (config := { maxSteps := 1000000 }) (disch := (first | omega | decide | assumption)) only [ltm_s, ok_n, rd_i, rd_j, fd_i, fd_j, wr_i, wr_j, fw_i, fw_j, ci_s, cj_s, cv_s, dv_n, dw_n, rt_1, rt_b, rt_20, rt_21, okb_0, okb_1, okb_b, nar_0, nar_1, nar_b, i_0, i_1, j_0, j_1, i_lit, j_lit, i_n, iI_add, iI_sub, iI_mul, iI_neg, jI_add, jI_sub, jI_mul, jI_neg, sh_1, an_1, xo_1, di_p, dj_p, i_64A, i_64, j_32, lq_ge, lq_lt, lq_le, lq_gt, lq_eq, i_lt, i_le, i_eq, j_eq, iI_A, jI_J, iI_b, iI_v, jI_v, ↓reduceIte, ite_true, ite_false, Int.reduceEq, Int.reduceLT, Int.reduceLE, Int.reduceAdd, Int.reduceSub, Int.reduceMul, Int.reduceNeg, not_true_eq_false, not_false_eq_true, iI_n, rdn_i, rdn_j, wrn_i, wrn_j, cd, q2, ch, cs, x3, q7, q67, lc, x4, q8, e180, p1, fwr, lst, n1, mj]
        · refine s_Model_bound_160 hF hg ?_
          simp (config := { maxSteps := 1000000 }) (disch := (first | omega | decide | assumption)) only [ltm_s, ok_n, rd_i, rd_j, fd_i, fd_j, wr_i, wr_j, fw_i, fw_j, ci_s, cj_s, cv_s, dv_n, dw_n, rt_1, rt_b, rt_20, rt_21, okb_0, okb_1, okb_b, nar_0, nar_1, nar_b, i_0, i_1, j_0, j_1, i_lit, j_lit, i_n, iI_add, iI_sub, iI_mul, iI_neg, jI_add, jI_sub, jI_mul, jI_neg, sh_1, an_1, xo_1, di_p, dj_p, i_64A, i_64, j_32, lq_ge, lq_lt, lq_le, lq_gt, lq_eq, i_lt, i_le, i_eq, j_eq, iI_A, jI_J, iI_b, iI_v, jI_v, ↓reduceIte, ite_true, ite_false, Int.reduceEq, Int.reduceLT, Int.reduceLE, Int.reduceAdd, Int.reduceSub, Int.reduceMul, Int.reduceNeg, not_true_eq_false, not_false_eq_true, h228, hu, n2, qb]
  · refine ⟨-100 - x, N1, N2, ?_, mpre _ z3, inv⟩
    have nx : ¬ x < 0 := by omega
    refine s_RunSayer_bound hF hg ?_
    simp (config := { maxSteps := 1000000 }) (disch := (first | omega | decide | assumption)) only [ltm_s, ok_n, rd_i, rd_j, fd_i, fd_j, wr_i, wr_j, fw_i, fw_j, ci_s, cj_s, cv_s, dv_n, dw_n, rt_1, rt_b, rt_20, rt_21, okb_0, okb_1, okb_b, nar_0, nar_1, nar_b, i_0, i_1, j_0, j_1, i_lit, j_lit, i_n, iI_add, iI_sub, iI_mul, iI_neg, jI_add, jI_sub, jI_mul, jI_neg, sh_1, an_1, xo_1, di_p, dj_p, i_64A, i_64, j_32, lq_ge, lq_lt, lq_le, lq_gt, lq_eq, i_lt, i_le, i_eq, j_eq, iI_A, jI_J, iI_b, iI_v, jI_v, ↓reduceIte, ite_true, ite_false, Int.reduceEq, Int.reduceLT, Int.reduceLE, Int.reduceAdd, Int.reduceSub, Int.reduceMul, Int.reduceNeg, not_true_eq_false, not_false_eq_true, iI_n, rdn_i, rdn_j, wrn_i, wrn_j, cd, q2, ch, cs, x3, q7, q67, lc, x4, q8, e180, p1, fwr, nx]
end Bw
