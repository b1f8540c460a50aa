/-! ONE BEST; what is asked within bounds; what was told -/
section Gu
variable {M0 M M' : am_M} {g : am_G} {F : am_FT}
theorem rsp_len {md : Int × Int × Int × Int} {by_ a b : Int} {C : Int → Int} {L : Int} {leg : Int → Int} (hn : 0 ≤ nW M0 ∧ nW M0 ≤ 40) (h : rsp M0 md by_ a b C L leg) : 0 ≤ L ∧ L ≤ 80 := by
  obtain ⟨x, y, z⟩ := h
  by_cases q : bvl M0 md by_ a b C = FARC
  · have := x q; omega
  · by_cases q2 : alone M0 by_ a b (sbl M0 md by_ a b C) = bvl M0 md by_ a b C
    · have := y q q2; omega
    · obtain ⟨m, -, m2, m3, -⟩ := z q q2
      omega
theorem Pth_u {N : Nat} {may : Int → Int → Prop} {Gl : Int → Prop} {gk wk C : Int → Int} {m m' : Nat} {e : Int} (h : Pth N may Gl gk wk C m e) (h' : Pth N may Gl gk wk C m' e) : m = m' := by
  rcases Nat.lt_trichotomy m m' with q | q | q
  · exact absurd h.2.2.1 (h'.2.1 m q)
  · exact q
  · exact absurd h'.2.2.1 (h.2.1 m' q)
theorem rsp_u {md : Int × Int × Int × Int} {by_ a b : Int} {C : Int → Int} {L L' : Int} {leg leg' : Int → Int} (h : rsp M0 md by_ a b C L leg) (h' : rsp M0 md by_ a b C L' leg') : L = L' ∧ ∀ i : Int, 0 ≤ i → i < L → leg i = leg' i := by
  obtain ⟨x, y, z⟩ := h
  obtain ⟨x', y', z'⟩ := h'
  by_cases q : bvl M0 md by_ a b C = FARC
  · rw [x q, x' q]; exact ⟨rfl, fun i i0 i1 => by omega⟩
  · by_cases q2 : alone M0 by_ a b (sbl M0 md by_ a b C) = bvl M0 md by_ a b C
    · obtain ⟨y1, y2⟩ := y q q2
      obtain ⟨y3, y4⟩ := y' q q2
      rw [y1, y3]
      exact ⟨rfl, fun i i0 i1 => by rw [show i = 0 by omega, y2, y4]⟩
    · obtain ⟨m, m1, m2, m3, m4⟩ := z q q2
      obtain ⟨m', n1, n2, n3, n4⟩ := z' q q2
      have e := Pth_u m1 n1
      subst e
      refine ⟨by omega, fun i i0 i1 => ?_⟩
      have ei : ((i.toNat : Nat) : Int) = i := by omega
      rw [← ei, m4 i.toNat (by omega), n4 i.toNat (by omega)]
-- asked within bounds
theorem c_noHour (hF : F = am_F T0 g) (hg : GG g) {v : Int} (v1 : -2147483648 ≤ v) (v2 : v < 2147483648) : F 150 0 [.int (iI v)] [] M = some (some (.int (iI (bI (v < 0 ∨ 23 < v)))), M) := by
  refine s_RunSayer_noHour hF hg ?_
  simp (config := { maxSteps := 1000000 }) (disch := (first | omega | decide | assumption)) only [ltm_s, ok_n, rd_i, rd_j, fd_i, fd_j, wr_i, wr_j, fw_i, fw_j, ci_s, cj_s, cv_s, dv_n, dw_n, rt_1, rt_b, rt_20, rt_21, okb_0, okb_1, okb_b, nar_0, nar_1, nar_b, i_0, i_1, j_0, j_1, i_lit, j_lit, i_n, iI_add, iI_sub, iI_mul, iI_neg, jI_add, jI_sub, jI_mul, jI_neg, sh_1, an_1, xo_1, di_p, dj_p, i_64A, i_64, j_32, lq_ge, lq_lt, lq_le, lq_gt, lq_eq, i_lt, i_le, i_eq, j_eq, iI_A, jI_J, iI_b, iI_v, jI_v, ↓reduceIte, ite_true, ite_false, Int.reduceEq, Int.reduceLT, Int.reduceLE, Int.reduceAdd, Int.reduceSub, Int.reduceMul, Int.reduceNeg, not_true_eq_false, not_false_eq_true, c_outside hF hg]
theorem c_noWay (hF : F = am_F T0 g) (hg : GG g) (hA : Ag M0 M) (h2 : I2 M0) {v : Int} (v1 : -2147483648 ≤ v) (v2 : v < 2147483648) : F 154 0 [.ref 0, .int (iI v)] [] M = some (some (.int (iI (bI (v < 0 ∨ nW M0 - 1 < v)))), M) := by
  have hn := h2.1
  refine s_RunSayer_noWay hF hg ?_
  simp (config := { maxSteps := 1000000 }) (disch := (first | omega | decide | assumption)) only [ltm_s, ok_n, rd_i, rd_j, fd_i, fd_j, wr_i, wr_j, fw_i, fw_j, ci_s, cj_s, cv_s, dv_n, dw_n, rt_1, rt_b, rt_20, rt_21, okb_0, okb_1, okb_b, nar_0, nar_1, nar_b, i_0, i_1, j_0, j_1, i_lit, j_lit, i_n, iI_add, iI_sub, iI_mul, iI_neg, jI_add, jI_sub, jI_mul, jI_neg, sh_1, an_1, xo_1, di_p, dj_p, i_64A, i_64, j_32, lq_ge, lq_lt, lq_le, lq_gt, lq_eq, i_lt, i_le, i_eq, j_eq, iI_A, jI_J, iI_b, iI_v, jI_v, ↓reduceIte, ite_true, ite_false, Int.reduceEq, Int.reduceLT, Int.reduceLE, Int.reduceAdd, Int.reduceSub, Int.reduceMul, Int.reduceNeg, not_true_eq_false, not_false_eq_true, agA hA, agJA hA, ag hA, v_nJ, v_nW, v_nD, v_toD, v_px, v_py, v_rg, v_kd, v_ft, v_on, v_bg, v_en, @nJ_ M0, @nW_ M0, @nD_ M0, @toD_ M0, @px_ M0, @py_ M0, @rg_ M0, @kd_ M0, @ft_ M0, @on_ M0, bt_, h2.2.1, c_outside hF hg]
theorem c_noLeg (hF : F = am_F T0 g) (hg : GG g) (hA : Ag M0 M) (h2 : I2 M0) {v : Int} (v1 : -2147483648 ≤ v) (v2 : v < 2147483648) : F 151 0 [.ref 0, .int (iI v)] [] M = some (some (.int (iI (bI (v < 0 ∨ 2 * nW M0 - 1 < v)))), M) := by
  have hn := h2.1
  refine s_RunSayer_noLeg hF hg ?_
  simp (config := { maxSteps := 1000000 }) (disch := (first | omega | decide | assumption)) only [ltm_s, ok_n, rd_i, rd_j, fd_i, fd_j, wr_i, wr_j, fw_i, fw_j, ci_s, cj_s, cv_s, dv_n, dw_n, rt_1, rt_b, rt_20, rt_21, okb_0, okb_1, okb_b, nar_0, nar_1, nar_b, i_0, i_1, j_0, j_1, i_lit, j_lit, i_n, iI_add, iI_sub, iI_mul, iI_neg, jI_add, jI_sub, jI_mul, jI_neg, sh_1, an_1, xo_1, di_p, dj_p, i_64A, i_64, j_32, lq_ge, lq_lt, lq_le, lq_gt, lq_eq, i_lt, i_le, i_eq, j_eq, iI_A, jI_J, iI_b, iI_v, jI_v, ↓reduceIte, ite_true, ite_false, Int.reduceEq, Int.reduceLT, Int.reduceLE, Int.reduceAdd, Int.reduceSub, Int.reduceMul, Int.reduceNeg, not_true_eq_false, not_false_eq_true, agA hA, agJA hA, ag hA, v_nJ, v_nW, v_nD, v_toD, v_px, v_py, v_rg, v_kd, v_ft, v_on, v_bg, v_en, @nJ_ M0, @nW_ M0, @nD_ M0, @toD_ M0, @px_ M0, @py_ M0, @rg_ M0, @kd_ M0, @ft_ M0, @on_ M0, bt_, c_legCount hF hg hA h2, c_outside hF hg]
theorem c_notKnown (hF : F = am_F T0 g) (hg : GG g) (hA : Ag M0 M) (h8 : I8 M0) {v : Int} (v1 : -2147483648 ≤ v) (v2 : v < 2147483648) : F 155 0 [.ref 0, .int (iI v)] [] M = some (some (.int (iI (bI (v < 0 ∨ toD M0 < v)))), M) := by
  have h81 := h8.1
  refine s_RunSayer_notKnown hF hg ?_
  simp (config := { maxSteps := 1000000 }) (disch := (first | omega | decide | assumption)) only [ltm_s, ok_n, rd_i, rd_j, fd_i, fd_j, wr_i, wr_j, fw_i, fw_j, ci_s, cj_s, cv_s, dv_n, dw_n, rt_1, rt_b, rt_20, rt_21, okb_0, okb_1, okb_b, nar_0, nar_1, nar_b, i_0, i_1, j_0, j_1, i_lit, j_lit, i_n, iI_add, iI_sub, iI_mul, iI_neg, jI_add, jI_sub, jI_mul, jI_neg, sh_1, an_1, xo_1, di_p, dj_p, i_64A, i_64, j_32, lq_ge, lq_lt, lq_le, lq_gt, lq_eq, i_lt, i_le, i_eq, j_eq, iI_A, jI_J, iI_b, iI_v, jI_v, ↓reduceIte, ite_true, ite_false, Int.reduceEq, Int.reduceLT, Int.reduceLE, Int.reduceAdd, Int.reduceSub, Int.reduceMul, Int.reduceNeg, not_true_eq_false, not_false_eq_true, agA hA, agJA hA, ag hA, v_nJ, v_nW, v_nD, v_toD, v_px, v_py, v_rg, v_kd, v_ft, v_on, v_bg, v_en, @nJ_ M0, @nW_ M0, @nD_ M0, @toD_ M0, @px_ M0, @py_ M0, @rg_ M0, @kd_ M0, @ft_ M0, @on_ M0, bt_, h8.2, c_outside hF hg]
theorem c_noDoors (hF : F = am_F T0 g) (hg : GG g) (hA : Ag M0 M) (h4 : I4 M0) {v w : Int} (v1 : -2147483648 ≤ v) (v2 : v < 2147483648) (w1 : -2147483648 ≤ w) (w2 : w < 2147483648) : F 149 0 [.ref 0, .int (iI v), .int (iI w)] [] M = some (some (.int (iI (bI ((v < 0 ∨ nD M0 - 1 < v) ∨ w < 0 ∨ nD M0 - 1 < w)))), M) := by
  have hn := h4.1
  refine s_RunSayer_noDoors hF hg ?_
  by_cases q : v < 0 ∨ nD M0 - 1 < v
  · rw [bI_ot q]
    simp (config := { maxSteps := 1000000 }) (disch := (first | omega | decide | assumption)) only [ltm_s, ok_n, rd_i, rd_j, fd_i, fd_j, wr_i, wr_j, fw_i, fw_j, ci_s, cj_s, cv_s, dv_n, dw_n, rt_1, rt_b, rt_20, rt_21, okb_0, okb_1, okb_b, nar_0, nar_1, nar_b, i_0, i_1, j_0, j_1, i_lit, j_lit, i_n, iI_add, iI_sub, iI_mul, iI_neg, jI_add, jI_sub, jI_mul, jI_neg, sh_1, an_1, xo_1, di_p, dj_p, i_64A, i_64, j_32, lq_ge, lq_lt, lq_le, lq_gt, lq_eq, i_lt, i_le, i_eq, j_eq, iI_A, jI_J, iI_b, iI_v, jI_v, ↓reduceIte, ite_true, ite_false, Int.reduceEq, Int.reduceLT, Int.reduceLE, Int.reduceAdd, Int.reduceSub, Int.reduceMul, Int.reduceNeg, not_true_eq_false, not_false_eq_true, agA hA, agJA hA, ag hA, v_nJ, v_nW, v_nD, v_toD, v_px, v_py, v_rg, v_kd, v_ft, v_on, v_bg, v_en, @nJ_ M0, @nW_ M0, @nD_ M0, @toD_ M0, @px_ M0, @py_ M0, @rg_ M0, @kd_ M0, @ft_ M0, @on_ M0, bt_, h4.2.1, c_outside hF hg, bI_t q]
  · rw [bI_of q]
    by_cases q2 : w < 0 ∨ nD M0 - 1 < w
    · simp (config := { maxSteps := 1000000 }) (disch := (first | omega | decide | assumption)) only [ltm_s, ok_n, rd_i, rd_j, fd_i, fd_j, wr_i, wr_j, fw_i, fw_j, ci_s, cj_s, cv_s, dv_n, dw_n, rt_1, rt_b, rt_20, rt_21, okb_0, okb_1, okb_b, nar_0, nar_1, nar_b, i_0, i_1, j_0, j_1, i_lit, j_lit, i_n, iI_add, iI_sub, iI_mul, iI_neg, jI_add, jI_sub, jI_mul, jI_neg, sh_1, an_1, xo_1, di_p, dj_p, i_64A, i_64, j_32, lq_ge, lq_lt, lq_le, lq_gt, lq_eq, i_lt, i_le, i_eq, j_eq, iI_A, jI_J, iI_b, iI_v, jI_v, ↓reduceIte, ite_true, ite_false, Int.reduceEq, Int.reduceLT, Int.reduceLE, Int.reduceAdd, Int.reduceSub, Int.reduceMul, Int.reduceNeg, not_true_eq_false, not_false_eq_true, agA hA, agJA hA, ag hA, v_nJ, v_nW, v_nD, v_toD, v_px, v_py, v_rg, v_kd, v_ft, v_on, v_bg, v_en, @nJ_ M0, @nW_ M0, @nD_ M0, @toD_ M0, @px_ M0, @py_ M0, @rg_ M0, @kd_ M0, @ft_ M0, @on_ M0, bt_, h4.2.1, c_outside hF hg, bI_f q, bI_t q2]
    · simp (config := { maxSteps := 1000000 }) (disch := (first | omega | decide | assumption)) only [ltm_s, ok_n, rd_i, rd_j, fd_i, fd_j, wr_i, wr_j, fw_i, fw_j, ci_s, cj_s, cv_s, dv_n, dw_n, rt_1, rt_b, rt_20, rt_21, okb_0, okb_1, okb_b, nar_0, nar_1, nar_b, i_0, i_1, j_0, j_1, i_lit, j_lit, i_n, iI_add, iI_sub, iI_mul, iI_neg, jI_add, jI_sub, jI_mul, jI_neg, sh_1, an_1, xo_1, di_p, dj_p, i_64A, i_64, j_32, lq_ge, lq_lt, lq_le, lq_gt, lq_eq, i_lt, i_le, i_eq, j_eq, iI_A, jI_J, iI_b, iI_v, jI_v, ↓reduceIte, ite_true, ite_false, Int.reduceEq, Int.reduceLT, Int.reduceLE, Int.reduceAdd, Int.reduceSub, Int.reduceMul, Int.reduceNeg, not_true_eq_false, not_false_eq_true, agA hA, agJA hA, ag hA, v_nJ, v_nW, v_nD, v_toD, v_px, v_py, v_rg, v_kd, v_ft, v_on, v_bg, v_en, @nJ_ M0, @nW_ M0, @nD_ M0, @toD_ M0, @px_ M0, @py_ M0, @rg_ M0, @kd_ M0, @ft_ M0, @on_ M0, bt_, h4.2.1, c_outside hF hg, bI_f q, bI_f q2]
theorem m_isDoor (hF : F = am_F T0 g) (hg : GG g) (hA : Ag M0 M) (h4 : I4 M0) {v : Int} (v1 : -2147483648 ≤ v) (v2 : v < 2147483648) : F 115 0 [.ref 219, .int (iI v)] [] M = some (some (.int (iI (bI (0 ≤ v ∧ v ≤ nD M0 - 1)))), M) := by
  have hn := h4.1
  refine s_Model_isDoor hF hg ?_
  simp (config := { maxSteps := 1000000 }) (disch := (first | omega | decide | assumption)) only [ltm_s, ok_n, rd_i, rd_j, fd_i, fd_j, wr_i, wr_j, fw_i, fw_j, ci_s, cj_s, cv_s, dv_n, dw_n, rt_1, rt_b, rt_20, rt_21, okb_0, okb_1, okb_b, nar_0, nar_1, nar_b, i_0, i_1, j_0, j_1, i_lit, j_lit, i_n, iI_add, iI_sub, iI_mul, iI_neg, jI_add, jI_sub, jI_mul, jI_neg, sh_1, an_1, xo_1, di_p, dj_p, i_64A, i_64, j_32, lq_ge, lq_lt, lq_le, lq_gt, lq_eq, i_lt, i_le, i_eq, j_eq, iI_A, jI_J, iI_b, iI_v, jI_v, ↓reduceIte, ite_true, ite_false, Int.reduceEq, Int.reduceLT, Int.reduceLE, Int.reduceAdd, Int.reduceSub, Int.reduceMul, Int.reduceNeg, not_true_eq_false, not_false_eq_true, agA hA, agJA hA, ag hA, v_nJ, v_nW, v_nD, v_toD, v_px, v_py, v_rg, v_kd, v_ft, v_on, v_bg, v_en, @nJ_ M0, @nW_ M0, @nD_ M0, @toD_ M0, @px_ M0, @py_ M0, @rg_ M0, @kd_ M0, @ft_ M0, @on_ M0, bt_, m_inn hF hg]
theorem m_isHour (hF : F = am_F T0 g) (hg : GG g) {v : Int} (v1 : -2147483648 ≤ v) (v2 : v < 2147483648) : F 116 0 [.int (iI v)] [] M = some (some (.int (iI (bI (0 ≤ v ∧ v ≤ 23)))), M) := by
  refine s_Model_isHour hF hg ?_
  simp (config := { maxSteps := 1000000 }) (disch := (first | omega | decide | assumption)) only [ltm_s, ok_n, rd_i, rd_j, fd_i, fd_j, wr_i, wr_j, fw_i, fw_j, ci_s, cj_s, cv_s, dv_n, dw_n, rt_1, rt_b, rt_20, rt_21, okb_0, okb_1, okb_b, nar_0, nar_1, nar_b, i_0, i_1, j_0, j_1, i_lit, j_lit, i_n, iI_add, iI_sub, iI_mul, iI_neg, jI_add, jI_sub, jI_mul, jI_neg, sh_1, an_1, xo_1, di_p, dj_p, i_64A, i_64, j_32, lq_ge, lq_lt, lq_le, lq_gt, lq_eq, i_lt, i_le, i_eq, j_eq, iI_A, jI_J, iI_b, iI_v, jI_v, ↓reduceIte, ite_true, ite_false, Int.reduceEq, Int.reduceLT, Int.reduceLE, Int.reduceAdd, Int.reduceSub, Int.reduceMul, Int.reduceNeg, not_true_eq_false, not_false_eq_true, m_inn hF hg]
theorem m_isLeg (hF : F = am_F T0 g) (hg : GG g) (hA : Ag M0 M) (h2 : I2 M0) {v : Int} (v1 : -2147483648 ≤ v) (v2 : v < 2147483648) : F 117 0 [.ref 219, .int (iI v)] [] M = some (some (.int (iI (bI (0 ≤ v ∧ v ≤ 2 * nW M0 - 1)))), M) := by
  have hn := h2.1
  refine s_Model_isLeg hF hg ?_
  simp (config := { maxSteps := 1000000 }) (disch := (first | omega | decide | assumption)) only [ltm_s, ok_n, rd_i, rd_j, fd_i, fd_j, wr_i, wr_j, fw_i, fw_j, ci_s, cj_s, cv_s, dv_n, dw_n, rt_1, rt_b, rt_20, rt_21, okb_0, okb_1, okb_b, nar_0, nar_1, nar_b, i_0, i_1, j_0, j_1, i_lit, j_lit, i_n, iI_add, iI_sub, iI_mul, iI_neg, jI_add, jI_sub, jI_mul, jI_neg, sh_1, an_1, xo_1, di_p, dj_p, i_64A, i_64, j_32, lq_ge, lq_lt, lq_le, lq_gt, lq_eq, i_lt, i_le, i_eq, j_eq, iI_A, jI_J, iI_b, iI_v, jI_v, ↓reduceIte, ite_true, ite_false, Int.reduceEq, Int.reduceLT, Int.reduceLE, Int.reduceAdd, Int.reduceSub, Int.reduceMul, Int.reduceNeg, not_true_eq_false, not_false_eq_true, agA hA, agJA hA, ag hA, v_nJ, v_nW, v_nD, v_toD, v_px, v_py, v_rg, v_kd, v_ft, v_on, v_bg, v_en, @nJ_ M0, @nW_ M0, @nD_ M0, @toD_ M0, @px_ M0, @py_ M0, @rg_ M0, @kd_ M0, @ft_ M0, @on_ M0, bt_, m_inn hF hg]
theorem m_isWay (hF : F = am_F T0 g) (hg : GG g) (hA : Ag M0 M) (h2 : I2 M0) {v : Int} (v1 : -2147483648 ≤ v) (v2 : v < 2147483648) : F 122 0 [.ref 219, .int (iI v)] [] M = some (some (.int (iI (bI (0 ≤ v ∧ v ≤ nW M0 - 1)))), M) := by
  have hn := h2.1
  refine s_Model_isWay hF hg ?_
  simp (config := { maxSteps := 1000000 }) (disch := (first | omega | decide | assumption)) only [ltm_s, ok_n, rd_i, rd_j, fd_i, fd_j, wr_i, wr_j, fw_i, fw_j, ci_s, cj_s, cv_s, dv_n, dw_n, rt_1, rt_b, rt_20, rt_21, okb_0, okb_1, okb_b, nar_0, nar_1, nar_b, i_0, i_1, j_0, j_1, i_lit, j_lit, i_n, iI_add, iI_sub, iI_mul, iI_neg, jI_add, jI_sub, jI_mul, jI_neg, sh_1, an_1, xo_1, di_p, dj_p, i_64A, i_64, j_32, lq_ge, lq_lt, lq_le, lq_gt, lq_eq, i_lt, i_le, i_eq, j_eq, iI_A, jI_J, iI_b, iI_v, jI_v, ↓reduceIte, ite_true, ite_false, Int.reduceEq, Int.reduceLT, Int.reduceLE, Int.reduceAdd, Int.reduceSub, Int.reduceMul, Int.reduceNeg, not_true_eq_false, not_false_eq_true, agA hA, agJA hA, ag hA, v_nJ, v_nW, v_nD, v_toD, v_px, v_py, v_rg, v_kd, v_ft, v_on, v_bg, v_en, @nJ_ M0, @nW_ M0, @nD_ M0, @toD_ M0, @px_ M0, @py_ M0, @rg_ M0, @kd_ M0, @ft_ M0, @on_ M0, bt_, m_inn hF hg]
theorem m_asReal (hF : F = am_F T0 g) (hg : GG g) {d h k b : Int} : F 43 0 [.ref 219, .int (iI d), .int (iI h), .int (iI k), .int (iI b)] [] M = some (none, W_ (W_ (W_ (W_ (W_ M 219 56 (-1)) 219 57 d) 219 58 h) 219 59 k) 219 60 b) := by
  refine s_Model_asReal hF hg ?_
  simp (config := { maxSteps := 1000000 }) (disch := (first | omega | decide | assumption)) only [ltm_s, ok_n, rd_i, rd_j, fd_i, fd_j, wr_i, wr_j, fw_i, fw_j, ci_s, cj_s, cv_s, dv_n, dw_n, rt_1, rt_b, rt_20, rt_21, okb_0, okb_1, okb_b, nar_0, nar_1, nar_b, i_0, i_1, j_0, j_1, i_lit, j_lit, i_n, iI_add, iI_sub, iI_mul, iI_neg, jI_add, jI_sub, jI_mul, jI_neg, sh_1, an_1, xo_1, di_p, dj_p, i_64A, i_64, j_32, lq_ge, lq_lt, lq_le, lq_gt, lq_eq, i_lt, i_le, i_eq, j_eq, iI_A, jI_J, iI_b, iI_v, jI_v, ↓reduceIte, ite_true, ite_false, Int.reduceEq, Int.reduceLT, Int.reduceLE, Int.reduceAdd, Int.reduceSub, Int.reduceMul, Int.reduceNeg, not_true_eq_false, not_false_eq_true]
theorem m_asPupil (hF : F = am_F T0 g) (hg : GG g) {p h : Int} : F 42 0 [.ref 219, .int (iI p), .int (iI h)] [] M = some (none, W_ (W_ (W_ M 219 56 p) 219 58 h) 219 60 0) := by
  refine s_Model_asPupil hF hg ?_
  simp (config := { maxSteps := 1000000 }) (disch := (first | omega | decide | assumption)) only [ltm_s, ok_n, rd_i, rd_j, fd_i, fd_j, wr_i, wr_j, fw_i, fw_j, ci_s, cj_s, cv_s, dv_n, dw_n, rt_1, rt_b, rt_20, rt_21, okb_0, okb_1, okb_b, nar_0, nar_1, nar_b, i_0, i_1, j_0, j_1, i_lit, j_lit, i_n, iI_add, iI_sub, iI_mul, iI_neg, jI_add, jI_sub, jI_mul, jI_neg, sh_1, an_1, xo_1, di_p, dj_p, i_64A, i_64, j_32, lq_ge, lq_lt, lq_le, lq_gt, lq_eq, i_lt, i_le, i_eq, j_eq, iI_A, jI_J, iI_b, iI_v, jI_v, ↓reduceIte, ite_true, ite_false, Int.reduceEq, Int.reduceLT, Int.reduceLE, Int.reduceAdd, Int.reduceSub, Int.reduceMul, Int.reduceNeg, not_true_eq_false, not_false_eq_true]
-- what is told
theorem m_tells_l (hF : F = am_F T0 g) (hg : GG g) {L : Int} (L1 : L ≤ 80) : ∀ (n k : Nat) (M : am_M), (k : Int) + n = L → A M 219 64 = L → (∀ i : Int, 0 ≤ i → i < (k : Int) → A M 265 i = A M 264 i) →
    ∃ M' : am_M, F 62 26 [.ref 219, .int (iI k)] [] M = some (some (.int (iI L)), M') ∧ Ke [265] M M' ∧ ∀ i : Int, 0 ≤ i → i < L → A M' 265 i = A M' 264 i := by
  intro n
  induction n with
  | zero =>
    intro k M h hl hp
    refine ⟨M, ?_, Ke.refl, fun i i0 i1 => hp i i0 (by omega)⟩
    refine s_Model_tells_26 hF hg ?_
    simp (config := { maxSteps := 1000000 }) (disch := (first | omega | decide | assumption)) only [ltm_s, ok_n, rd_i, rd_j, fd_i, fd_j, wr_i, wr_j, fw_i, fw_j, ci_s, cj_s, cv_s, dv_n, dw_n, rt_1, rt_b, rt_20, rt_21, okb_0, okb_1, okb_b, nar_0, nar_1, nar_b, i_0, i_1, j_0, j_1, i_lit, j_lit, i_n, iI_add, iI_sub, iI_mul, iI_neg, jI_add, jI_sub, jI_mul, jI_neg, sh_1, an_1, xo_1, di_p, dj_p, i_64A, i_64, j_32, lq_ge, lq_lt, lq_le, lq_gt, lq_eq, i_lt, i_le, i_eq, j_eq, iI_A, jI_J, iI_b, iI_v, jI_v, ↓reduceIte, ite_true, ite_false, Int.reduceEq, Int.reduceLT, Int.reduceLE, Int.reduceAdd, Int.reduceSub, Int.reduceMul, Int.reduceNeg, not_true_eq_false, not_false_eq_true, hl]
    rw [if_pos (by omega)]
  | succ n ih =>
    intro k M h hl hp
    have ek : ((k + 1 : Nat) : Int) = (k : Int) + 1 := by omega
    have hlt : ¬ L ≤ (k : Int) := by omega
    have hK : Ke [265] M (W_ M 265 k (A M 264 k)) := Ke.refl.w (by decide)
    obtain ⟨M', q1, q2, q3⟩ := ih (k + 1) (W_ M 265 k (A M 264 k)) (by omega) (by rw [hK.a (by decide)]; exact hl) (fun i i0 i1 => by
      rw [hK.a (a := 264) (by decide)]
      by_cases ei : i = k
      · rw [ei]; exact A_WA
      · rw [A_Wo (by omega) i0 ei]; exact hp i i0 (by omega))
    rw [ek] at q1
    refine ⟨M', ?_, hK.trans q2, q3⟩
    refine s_Model_tells_26 hF hg ?_
    simp (config := { maxSteps := 1000000 }) (disch := (first | omega | decide | assumption)) only [ltm_s, ok_n, rd_i, rd_j, fd_i, fd_j, wr_i, wr_j, fw_i, fw_j, ci_s, cj_s, cv_s, dv_n, dw_n, rt_1, rt_b, rt_20, rt_21, okb_0, okb_1, okb_b, nar_0, nar_1, nar_b, i_0, i_1, j_0, j_1, i_lit, j_lit, i_n, iI_add, iI_sub, iI_mul, iI_neg, jI_add, jI_sub, jI_mul, jI_neg, sh_1, an_1, xo_1, di_p, dj_p, i_64A, i_64, j_32, lq_ge, lq_lt, lq_le, lq_gt, lq_eq, i_lt, i_le, i_eq, j_eq, iI_A, jI_J, iI_b, iI_v, jI_v, ↓reduceIte, ite_true, ite_false, Int.reduceEq, Int.reduceLT, Int.reduceLE, Int.reduceAdd, Int.reduceSub, Int.reduceMul, Int.reduceNeg, not_true_eq_false, not_false_eq_true, hl, hlt, q1]
theorem m_tells (hF : F = am_F T0 g) (hg : GG g) (hA : Ag M0 M) {L : Int} (L0 : 0 ≤ L) (L1 : L ≤ 80) (hl : A M 219 64 = L) :
    ∃ M' : am_M, F 62 0 [.ref 219] [] M = some (some (.int (iI L)), M') ∧ Ag M0 M' ∧ Ke [219, 265] M M' ∧ (∀ i : Int, 0 ≤ i → i < L → A M' 265 i = A M 264 i) ∧ A M' 219 72 = L ∧ J M' 219 73 = J M 219 65 ∧ J M' 219 74 = J M 219 66 ∧ (∀ z : Int, 0 ≤ z → z ≠ 72 → A M' 219 z = A M 219 z) ∧ ∀ z : Int, 0 ≤ z → z ≠ 73 → z ≠ 74 → J M' 219 z = J M 219 z := by
  have K1 : Ke [219] M (X_ (X_ (W_ M 219 72 L) 219 73 (J M 219 65)) 219 74 (J M 219 66)) := ((Ke.refl.w (by decide)).x (by decide)).x (by decide)
  have x64 : A (X_ (X_ (W_ M 219 72 L) 219 73 (J M 219 65)) 219 74 (J M 219 66)) 219 64 = L := by
    show A (W_ M 219 72 L) 219 64 = L
    rw [A_Wo (by omega) (by omega) (by omega)]; exact hl
  obtain ⟨M', q1, q2, q3⟩ := m_tells_l hF hg L1 L.toNat 0 _ (by omega) x64 (fun i i0 i1 => by omega)
  have ez : iI ((0 : Nat) : Int) = iI 0 := rfl
  rw [ez] at q1
  have j66 : J (X_ (W_ M 219 72 L) 219 73 (J M 219 65)) 219 66 = J M 219 66 := by
    rw [J_Xo (by omega) (by omega) (by omega)]; rfl
  refine ⟨M', ?_, (((hA.w rfl).x rfl).x rfl).trans (q2.ag (by decide)), (K1.mono (by decide)).trans (q2.mono (by decide)), fun i i0 i1 => ?_, ?_, ?_, ?_, fun z z0 z1 => ?_, fun z z0 z1 z2 => ?_⟩
  · refine s_Model_tells hF hg ?_
    simp (config := { maxSteps := 1000000 }) (disch := (first | omega | decide | assumption)) only [ltm_s, ok_n, rd_i, rd_j, fd_i, fd_j, wr_i, wr_j, fw_i, fw_j, ci_s, cj_s, cv_s, dv_n, dw_n, rt_1, rt_b, rt_20, rt_21, okb_0, okb_1, okb_b, nar_0, nar_1, nar_b, i_0, i_1, j_0, j_1, i_lit, j_lit, i_n, iI_add, iI_sub, iI_mul, iI_neg, jI_add, jI_sub, jI_mul, jI_neg, sh_1, an_1, xo_1, di_p, dj_p, i_64A, i_64, j_32, lq_ge, lq_lt, lq_le, lq_gt, lq_eq, i_lt, i_le, i_eq, j_eq, iI_A, jI_J, iI_b, iI_v, jI_v, ↓reduceIte, ite_true, ite_false, Int.reduceEq, Int.reduceLT, Int.reduceLE, Int.reduceAdd, Int.reduceSub, Int.reduceMul, Int.reduceNeg, not_true_eq_false, not_false_eq_true, hl, J_W, j66, q1]
  · rw [q3 i i0 i1, q2.a (by decide), K1.a (by decide)]
  · rw [q2.a (by decide)]
    show A (W_ M 219 72 L) 219 72 = L
    rw [A_Ws (by omega) (by omega)]
  · rw [q2.j (by decide), J_Xo (by omega) (by omega) (by omega), J_XJ]
  · rw [q2.j (by decide), J_XJ]
  · rw [q2.a (by decide)]
    show A (W_ M 219 72 L) 219 z = _
    rw [A_Wo (by omega) z0 z1]
  · rw [q2.j (by decide), J_Xo (by omega) z0 z2, J_Xo (by omega) z0 z1]; rfl
end Gu
