/-! THE SAID LEGS DRIVEN, by both -/
noncomputable section
def whl (M : am_M) (a b e m rtd : Int) : Int := if ¬ e / 2 = A M 228 b then 6 else if m = 0 ∧ ¬ 0 < ahd_ M a b e then 6 else if (A M 230 b = e % 2 ↔ rtd = 0) then 0 else 7
end
def Drv (M : am_M) (a b m : Int) (leg : Int → Int) : Prop := (∀ j : Int, 0 ≤ j → j ≤ m → 0 ≤ leg j ∧ leg j < 2 * nW M) ∧ (∀ j : Int, 0 ≤ j → j < m → fol M (leg j) (leg (j + 1))) ∧ leg 0 / 2 = A M 228 a
def Bs (M0 M1 : am_M) : Prop := Sm M0 M1 ∧ I1 M1 ∧ I2 M1 ∧ I4 M1 ∧ I5 M1 ∧ I6 M1 ∧ I7 M1 ∧ I8 M1
section Dr
variable {M0 M1 M N X : am_M} {g : am_G} {F : am_FT} {rt : Nat}
theorem sm_whn (h : Sm M X) : whn X = whn M := by
  have hd := h.drvE
  have hb := h.bndE
  have ht : toD X = toD M := h.2.2.2.1
  funext e hour r
  unfold whn
  rw [hd, hb, ht]
theorem sm_whl (h : Sm M X) : whl X = whl M := by
  have ha := h.ahd_E
  obtain ⟨f0, f4, f10, f14, f15, f19, f24, r220, r221, r222, r223, r224, r225, r226, r227, r228, r229, r230, -⟩ := h
  funext a b e m r
  unfold whl
  rw [ha, r228, r230]
theorem whl_a {a b e m rtd : Int} (h : ¬ e / 2 = A M 228 b) : whl M a b e m rtd = 6 := if_pos h
theorem whl_b {a b e m rtd : Int} (h : e / 2 = A M 228 b) (h2 : m = 0 ∧ ¬ 0 < ahd_ M a b e) : whl M a b e m rtd = 6 := (if_neg (not_not_intro h)).trans (if_pos h2)
theorem whl_c {a b e m rtd : Int} (h : e / 2 = A M 228 b) (h2 : ¬ (m = 0 ∧ ¬ 0 < ahd_ M a b e)) (h3 : A M 230 b = e % 2 ↔ rtd = 0) : whl M a b e m rtd = 0 := (if_neg (not_not_intro h)).trans ((if_neg h2).trans (if_pos h3))
theorem whl_d {a b e m rtd : Int} (h : e / 2 = A M 228 b) (h2 : ¬ (m = 0 ∧ ¬ 0 < ahd_ M a b e)) (h3 : ¬ (A M 230 b = e % 2 ↔ rtd = 0)) : whl M a b e m rtd = 7 := (if_neg (not_not_intro h)).trans ((if_neg h2).trans (if_neg h3))
theorem c_whyLast (hF : F = am_F T0 g) (hg : GG g) (hA : Ag M0 M) (h2 : I2 M0) (h4 : I4 M0) (hr : rok g rt) {a b e m rtd : Int} (a0 : 0 ≤ a) (a1 : a < nD M0) (b0 : 0 ≤ b) (b1 : b < nD M0) (e0 : 0 ≤ e) (e1 : e < 2 * nW M0) (m0 : 0 ≤ m) (m1 : m ≤ 20) (r01 : rtd = 0 ∨ rtd = 1) (hl : A M rt 5 = m + 1) (ha : A M rt 0 = a) (hb : A M rt 1 = b) : F 101 0 [.ref 32, .int (iI e), .ref rt, .int (iI rtd)] [] M = some (some (.int (iI (whl M0 a b e m rtd))), M) := by
  have hn := h2.1
  have hd := h4.1
  have e11 := r11 h4 b0 b1
  have e13 := r13 h4 b0 b1
  have wb := (h4.2.2 b b0 b1).1
  have sb := (h4.2.2 b b0 b1).2.2.1
  have fa := c_feetAhead hF hg hA h2 h4 e0 e1 a0 a1 b0 b1
  have ea : (if e % 2 = 0 then A M0 229 b - A M0 229 a else A M0 229 a - A M0 229 b) = ahd_ M0 a b e := rfl
  rw [ea] at fa
  have ar := ahd_r h2 h4 (e := e) a0 a1 b0 b1
  have x00 : iI 0 ^^^ iI 0 = iI 0 := by decide
  have x01 : iI 0 ^^^ iI 1 = iI 1 := by decide
  have x10 : iI 1 ^^^ iI 0 = iI 1 := by decide
  have x11 : iI 1 ^^^ iI 1 = iI 0 := by decide
  have xr : iI (e % 2) ^^^ iI rtd = iI (if (0 = e % 2 ↔ rtd = 0) then 0 else 1) := by
    have em : e % 2 = 0 ∨ e % 2 = 1 := by omega
    rcases em with em | em <;> rcases r01 with q | q <;> rw [em, q]
    · rw [x00, if_pos (by omega)]
    · rw [x01, if_neg (by omega)]
    · rw [x10, if_neg (by omega)]
    · rw [x11, if_pos (by omega)]
  obtain ⟨t, et⟩ : ∃ t : Int, t = (if (0 = e % 2 ↔ rtd = 0) then 0 else 1) := ⟨_, rfl⟩
  rw [← et] at xr
  have t01 : t = 0 ∨ t = 1 := by rw [et]; split <;> omega
  have ts : (A M0 230 b = t) ↔ (A M0 230 b = e % 2 ↔ rtd = 0) := by
    have em : e % 2 = 0 ∨ e % 2 = 1 := by omega
    rw [et]
    rcases em with em | em <;> rcases r01 with q | q <;> rcases sb with s | s <;> rw [em, q, s] <;> decide
  refine s_Finder_whyNotSetDown hF hg hr.1 ?_
  by_cases q1 : e / 2 = A M0 228 b
  · have q1' := eq_true q1
    by_cases q2 : m = 0
    · have l1 : A M rt 5 = 1 := by omega
      by_cases q3 : 0 < ahd_ M0 a b e
      · have q5 : ¬ (m = 0 ∧ ¬ 0 < ahd_ M0 a b e) := fun h => h.2 q3
        by_cases q4 : A M0 230 b = t
        · rw [whl_c q1 q5 (ts.mp q4)]
          have q4' := eq_true q4
          simp (config := { maxSteps := 1000000 }) (disch := (first | omega | decide | assumption)) only [ltm_s, ok_n, rd_i, rd_j, fd_i, fd_j, wr_i, wr_j, fw_i, fw_j, ci_s, cj_s, cv_s, dv_n, dw_n, rt_1, rt_b, rt_20, rt_21, okb_0, okb_1, okb_b, nar_0, nar_1, nar_b, i_0, i_1, j_0, j_1, i_lit, j_lit, i_n, iI_add, iI_sub, iI_mul, iI_neg, jI_add, jI_sub, jI_mul, jI_neg, sh_1, an_1, xo_1, di_p, dj_p, i_64A, i_64, j_32, lq_ge, lq_lt, lq_le, lq_gt, lq_eq, i_lt, i_le, i_eq, j_eq, iI_A, jI_J, iI_b, iI_v, jI_v, ↓reduceIte, ite_true, ite_false, Int.reduceEq, Int.reduceLT, Int.reduceLE, Int.reduceAdd, Int.reduceSub, Int.reduceMul, Int.reduceNeg, not_true_eq_false, not_false_eq_true, agA hA, agJA hA, ag hA, v_nJ, v_nW, v_nD, v_toD, v_px, v_py, v_rg, v_kd, v_ft, v_on, v_bg, v_en, @nJ_ M0, @nW_ M0, @nD_ M0, @toD_ M0, @px_ M0, @py_ M0, @rg_ M0, @kd_ M0, @ft_ M0, @on_ M0, bt_, hb, ha, l1, e11, e13, q1', fa, q3, xr, q4']
        · rw [whl_d q1 q5 (fun h => q4 (ts.mpr h))]
          simp (config := { maxSteps := 1000000 }) (disch := (first | omega | decide | assumption)) only [ltm_s, ok_n, rd_i, rd_j, fd_i, fd_j, wr_i, wr_j, fw_i, fw_j, ci_s, cj_s, cv_s, dv_n, dw_n, rt_1, rt_b, rt_20, rt_21, okb_0, okb_1, okb_b, nar_0, nar_1, nar_b, i_0, i_1, j_0, j_1, i_lit, j_lit, i_n, iI_add, iI_sub, iI_mul, iI_neg, jI_add, jI_sub, jI_mul, jI_neg, sh_1, an_1, xo_1, di_p, dj_p, i_64A, i_64, j_32, lq_ge, lq_lt, lq_le, lq_gt, lq_eq, i_lt, i_le, i_eq, j_eq, iI_A, jI_J, iI_b, iI_v, jI_v, ↓reduceIte, ite_true, ite_false, Int.reduceEq, Int.reduceLT, Int.reduceLE, Int.reduceAdd, Int.reduceSub, Int.reduceMul, Int.reduceNeg, not_true_eq_false, not_false_eq_true, agA hA, agJA hA, ag hA, v_nJ, v_nW, v_nD, v_toD, v_px, v_py, v_rg, v_kd, v_ft, v_on, v_bg, v_en, @nJ_ M0, @nW_ M0, @nD_ M0, @toD_ M0, @px_ M0, @py_ M0, @rg_ M0, @kd_ M0, @ft_ M0, @on_ M0, bt_, hb, ha, l1, e11, e13, q1', fa, q3, xr, q4]
      · rw [whl_b q1 ⟨q2, q3⟩]
        simp (config := { maxSteps := 1000000 }) (disch := (first | omega | decide | assumption)) only [ltm_s, ok_n, rd_i, rd_j, fd_i, fd_j, wr_i, wr_j, fw_i, fw_j, ci_s, cj_s, cv_s, dv_n, dw_n, rt_1, rt_b, rt_20, rt_21, okb_0, okb_1, okb_b, nar_0, nar_1, nar_b, i_0, i_1, j_0, j_1, i_lit, j_lit, i_n, iI_add, iI_sub, iI_mul, iI_neg, jI_add, jI_sub, jI_mul, jI_neg, sh_1, an_1, xo_1, di_p, dj_p, i_64A, i_64, j_32, lq_ge, lq_lt, lq_le, lq_gt, lq_eq, i_lt, i_le, i_eq, j_eq, iI_A, jI_J, iI_b, iI_v, jI_v, ↓reduceIte, ite_true, ite_false, Int.reduceEq, Int.reduceLT, Int.reduceLE, Int.reduceAdd, Int.reduceSub, Int.reduceMul, Int.reduceNeg, not_true_eq_false, not_false_eq_true, agA hA, agJA hA, ag hA, v_nJ, v_nW, v_nD, v_toD, v_px, v_py, v_rg, v_kd, v_ft, v_on, v_bg, v_en, @nJ_ M0, @nW_ M0, @nD_ M0, @toD_ M0, @px_ M0, @py_ M0, @rg_ M0, @kd_ M0, @ft_ M0, @on_ M0, bt_, hb, ha, l1, e11, e13, q1', fa, q3]
    · have q5 : ¬ (m = 0 ∧ ¬ 0 < ahd_ M0 a b e) := fun h => q2 h.1
      have l1 : ¬ m + 1 = 1 := by omega
      by_cases q4 : A M0 230 b = t
      · rw [whl_c q1 q5 (ts.mp q4)]
        have q4' := eq_true q4
        simp (config := { maxSteps := 1000000 }) (disch := (first | omega | decide | assumption)) only [ltm_s, ok_n, rd_i, rd_j, fd_i, fd_j, wr_i, wr_j, fw_i, fw_j, ci_s, cj_s, cv_s, dv_n, dw_n, rt_1, rt_b, rt_20, rt_21, okb_0, okb_1, okb_b, nar_0, nar_1, nar_b, i_0, i_1, j_0, j_1, i_lit, j_lit, i_n, iI_add, iI_sub, iI_mul, iI_neg, jI_add, jI_sub, jI_mul, jI_neg, sh_1, an_1, xo_1, di_p, dj_p, i_64A, i_64, j_32, lq_ge, lq_lt, lq_le, lq_gt, lq_eq, i_lt, i_le, i_eq, j_eq, iI_A, jI_J, iI_b, iI_v, jI_v, ↓reduceIte, ite_true, ite_false, Int.reduceEq, Int.reduceLT, Int.reduceLE, Int.reduceAdd, Int.reduceSub, Int.reduceMul, Int.reduceNeg, not_true_eq_false, not_false_eq_true, agA hA, agJA hA, ag hA, v_nJ, v_nW, v_nD, v_toD, v_px, v_py, v_rg, v_kd, v_ft, v_on, v_bg, v_en, @nJ_ M0, @nW_ M0, @nD_ M0, @toD_ M0, @px_ M0, @py_ M0, @rg_ M0, @kd_ M0, @ft_ M0, @on_ M0, bt_, hb, ha, hl, l1, e11, e13, q1', xr, q4']
      · rw [whl_d q1 q5 (fun h => q4 (ts.mpr h))]
        simp (config := { maxSteps := 1000000 }) (disch := (first | omega | decide | assumption)) only [ltm_s, ok_n, rd_i, rd_j, fd_i, fd_j, wr_i, wr_j, fw_i, fw_j, ci_s, cj_s, cv_s, dv_n, dw_n, rt_1, rt_b, rt_20, rt_21, okb_0, okb_1, okb_b, nar_0, nar_1, nar_b, i_0, i_1, j_0, j_1, i_lit, j_lit, i_n, iI_add, iI_sub, iI_mul, iI_neg, jI_add, jI_sub, jI_mul, jI_neg, sh_1, an_1, xo_1, di_p, dj_p, i_64A, i_64, j_32, lq_ge, lq_lt, lq_le, lq_gt, lq_eq, i_lt, i_le, i_eq, j_eq, iI_A, jI_J, iI_b, iI_v, jI_v, ↓reduceIte, ite_true, ite_false, Int.reduceEq, Int.reduceLT, Int.reduceLE, Int.reduceAdd, Int.reduceSub, Int.reduceMul, Int.reduceNeg, not_true_eq_false, not_false_eq_true, agA hA, agJA hA, ag hA, v_nJ, v_nW, v_nD, v_toD, v_px, v_py, v_rg, v_kd, v_ft, v_on, v_bg, v_en, @nJ_ M0, @nW_ M0, @nD_ M0, @toD_ M0, @px_ M0, @py_ M0, @rg_ M0, @kd_ M0, @ft_ M0, @on_ M0, bt_, hb, ha, hl, l1, e11, e13, q1', xr, q4]
  · rw [whl_a q1]
    simp (config := { maxSteps := 1000000 }) (disch := (first | omega | decide | assumption)) only [ltm_s, ok_n, rd_i, rd_j, fd_i, fd_j, wr_i, wr_j, fw_i, fw_j, ci_s, cj_s, cv_s, dv_n, dw_n, rt_1, rt_b, rt_20, rt_21, okb_0, okb_1, okb_b, nar_0, nar_1, nar_b, i_0, i_1, j_0, j_1, i_lit, j_lit, i_n, iI_add, iI_sub, iI_mul, iI_neg, jI_add, jI_sub, jI_mul, jI_neg, sh_1, an_1, xo_1, di_p, dj_p, i_64A, i_64, j_32, lq_ge, lq_lt, lq_le, lq_gt, lq_eq, i_lt, i_le, i_eq, j_eq, iI_A, jI_J, iI_b, iI_v, jI_v, ↓reduceIte, ite_true, ite_false, Int.reduceEq, Int.reduceLT, Int.reduceLE, Int.reduceAdd, Int.reduceSub, Int.reduceMul, Int.reduceNeg, not_true_eq_false, not_false_eq_true, agA hA, agJA hA, ag hA, v_nJ, v_nW, v_nD, v_toD, v_px, v_py, v_rg, v_kd, v_ft, v_on, v_bg, v_en, @nJ_ M0, @nW_ M0, @nD_ M0, @toD_ M0, @px_ M0, @py_ M0, @rg_ M0, @kd_ M0, @ft_ M0, @on_ M0, bt_, hb, e11, q1]
theorem m_whyLast (hF : F = am_F T0 g) (hg : GG g) (hA : Ag M0 M) (h2 : I2 M0) (h4 : I4 M0) {a b e m rtd : Int} (a0 : 0 ≤ a) (a1 : a < nD M0) (b0 : 0 ≤ b) (b1 : b < nD M0) (e0 : 0 ≤ e) (e1 : e < 2 * nW M0) (m0 : 0 ≤ m) (m1 : m ≤ 20) (r01 : rtd = 0 ∨ rtd = 1) (h78 : A M 219 78 = m) (h82 : A M 219 82 = 1 - rtd) (h68 : A M 268 m = e) (hw : m = 0 → e / 2 = A M0 228 a) : F 142 0 [.ref 219, .int (iI a), .int (iI b)] [] M = some (some (.int (iI (whl M0 a b e m rtd))), M) := by
  have hn := h2.1
  have hd := h4.1
  have wb := (h4.2.2 b b0 b1).1
  have sb := (h4.2.2 b b0 b1).2.2.1
  have ar := ahd_r h2 h4 (e := e) a0 a1 b0 b1
  have ed : e - e / 2 * 2 = e % 2 := by omega
  refine s_Model_whyLast hF hg ?_
  by_cases q1 : e / 2 = A M0 228 b
  · have q1' := eq_true q1
    -- the side
    by_cases q2 : m = 0
    · have bw := m_between hF hg hA h2 h4 a0 a1 b0 b1 e0 e1
      have h68' : A M 268 0 = e := by rw [← q2]; exact h68
      have h78' : A M 219 78 = 0 := by omega
      have wab : A M0 228 a = A M0 228 b := by rw [← hw q2]; exact q1
      by_cases q3 : 0 < ahd_ M0 a b e
      · have q5 : ¬ (m = 0 ∧ ¬ 0 < ahd_ M0 a b e) := fun h => h.2 q3
        rw [if_pos ⟨wab, q3⟩] at bw
        have q3' : 0 ≤ ahd_ M0 a b e := by omega
        by_cases q4 : A M0 230 b = e % 2
        · have q4' := eq_true q4
          rcases r01 with q | q
          · rw [whl_c q1 q5 ⟨fun _ => q, fun _ => q4⟩]
            have h82' : A M 219 82 = 1 := by omega
            simp (config := { maxSteps := 1000000 }) (disch := (first | omega | decide | assumption)) only [ltm_s, ok_n, rd_i, rd_j, fd_i, fd_j, wr_i, wr_j, fw_i, fw_j, ci_s, cj_s, cv_s, dv_n, dw_n, rt_1, rt_b, rt_20, rt_21, okb_0, okb_1, okb_b, nar_0, nar_1, nar_b, i_0, i_1, j_0, j_1, i_lit, j_lit, i_n, iI_add, iI_sub, iI_mul, iI_neg, jI_add, jI_sub, jI_mul, jI_neg, sh_1, an_1, xo_1, di_p, dj_p, i_64A, i_64, j_32, lq_ge, lq_lt, lq_le, lq_gt, lq_eq, i_lt, i_le, i_eq, j_eq, iI_A, jI_J, iI_b, iI_v, jI_v, ↓reduceIte, ite_true, ite_false, Int.reduceEq, Int.reduceLT, Int.reduceLE, Int.reduceAdd, Int.reduceSub, Int.reduceMul, Int.reduceNeg, not_true_eq_false, not_false_eq_true, agA hA, agJA hA, ag hA, v_nJ, v_nW, v_nD, v_toD, v_px, v_py, v_rg, v_kd, v_ft, v_on, v_bg, v_en, @nJ_ M0, @nW_ M0, @nD_ M0, @toD_ M0, @px_ M0, @py_ M0, @rg_ M0, @kd_ M0, @ft_ M0, @on_ M0, bt_, h78', h68', q1', bw, q3', ed, q4', h82']
          · rw [whl_d q1 q5 (fun h => by have := h.mp q4; omega)]
            have h82' : A M 219 82 = 0 := by omega
            simp (config := { maxSteps := 1000000 }) (disch := (first | omega | decide | assumption)) only [ltm_s, ok_n, rd_i, rd_j, fd_i, fd_j, wr_i, wr_j, fw_i, fw_j, ci_s, cj_s, cv_s, dv_n, dw_n, rt_1, rt_b, rt_20, rt_21, okb_0, okb_1, okb_b, nar_0, nar_1, nar_b, i_0, i_1, j_0, j_1, i_lit, j_lit, i_n, iI_add, iI_sub, iI_mul, iI_neg, jI_add, jI_sub, jI_mul, jI_neg, sh_1, an_1, xo_1, di_p, dj_p, i_64A, i_64, j_32, lq_ge, lq_lt, lq_le, lq_gt, lq_eq, i_lt, i_le, i_eq, j_eq, iI_A, jI_J, iI_b, iI_v, jI_v, ↓reduceIte, ite_true, ite_false, Int.reduceEq, Int.reduceLT, Int.reduceLE, Int.reduceAdd, Int.reduceSub, Int.reduceMul, Int.reduceNeg, not_true_eq_false, not_false_eq_true, agA hA, agJA hA, ag hA, v_nJ, v_nW, v_nD, v_toD, v_px, v_py, v_rg, v_kd, v_ft, v_on, v_bg, v_en, @nJ_ M0, @nW_ M0, @nD_ M0, @toD_ M0, @px_ M0, @py_ M0, @rg_ M0, @kd_ M0, @ft_ M0, @on_ M0, bt_, h78', h68', q1', bw, q3', ed, q4', h82']
        · rcases r01 with q | q
          · rw [whl_d q1 q5 (fun h => q4 (h.mpr q))]
            have h82' : A M 219 82 = 1 := by omega
            simp (config := { maxSteps := 1000000 }) (disch := (first | omega | decide | assumption)) only [ltm_s, ok_n, rd_i, rd_j, fd_i, fd_j, wr_i, wr_j, fw_i, fw_j, ci_s, cj_s, cv_s, dv_n, dw_n, rt_1, rt_b, rt_20, rt_21, okb_0, okb_1, okb_b, nar_0, nar_1, nar_b, i_0, i_1, j_0, j_1, i_lit, j_lit, i_n, iI_add, iI_sub, iI_mul, iI_neg, jI_add, jI_sub, jI_mul, jI_neg, sh_1, an_1, xo_1, di_p, dj_p, i_64A, i_64, j_32, lq_ge, lq_lt, lq_le, lq_gt, lq_eq, i_lt, i_le, i_eq, j_eq, iI_A, jI_J, iI_b, iI_v, jI_v, ↓reduceIte, ite_true, ite_false, Int.reduceEq, Int.reduceLT, Int.reduceLE, Int.reduceAdd, Int.reduceSub, Int.reduceMul, Int.reduceNeg, not_true_eq_false, not_false_eq_true, agA hA, agJA hA, ag hA, v_nJ, v_nW, v_nD, v_toD, v_px, v_py, v_rg, v_kd, v_ft, v_on, v_bg, v_en, @nJ_ M0, @nW_ M0, @nD_ M0, @toD_ M0, @px_ M0, @py_ M0, @rg_ M0, @kd_ M0, @ft_ M0, @on_ M0, bt_, h78', h68', q1', bw, q3', ed, q4, h82']
          · rw [whl_c q1 q5 ⟨fun h => absurd h q4, fun h => by omega⟩]
            have h82' : A M 219 82 = 0 := by omega
            simp (config := { maxSteps := 1000000 }) (disch := (first | omega | decide | assumption)) only [ltm_s, ok_n, rd_i, rd_j, fd_i, fd_j, wr_i, wr_j, fw_i, fw_j, ci_s, cj_s, cv_s, dv_n, dw_n, rt_1, rt_b, rt_20, rt_21, okb_0, okb_1, okb_b, nar_0, nar_1, nar_b, i_0, i_1, j_0, j_1, i_lit, j_lit, i_n, iI_add, iI_sub, iI_mul, iI_neg, jI_add, jI_sub, jI_mul, jI_neg, sh_1, an_1, xo_1, di_p, dj_p, i_64A, i_64, j_32, lq_ge, lq_lt, lq_le, lq_gt, lq_eq, i_lt, i_le, i_eq, j_eq, iI_A, jI_J, iI_b, iI_v, jI_v, ↓reduceIte, ite_true, ite_false, Int.reduceEq, Int.reduceLT, Int.reduceLE, Int.reduceAdd, Int.reduceSub, Int.reduceMul, Int.reduceNeg, not_true_eq_false, not_false_eq_true, agA hA, agJA hA, ag hA, v_nJ, v_nW, v_nD, v_toD, v_px, v_py, v_rg, v_kd, v_ft, v_on, v_bg, v_en, @nJ_ M0, @nW_ M0, @nD_ M0, @toD_ M0, @px_ M0, @py_ M0, @rg_ M0, @kd_ M0, @ft_ M0, @on_ M0, bt_, h78', h68', q1', bw, q3', ed, q4, h82']
      · rw [whl_b q1 ⟨q2, q3⟩]
        rw [if_neg (fun h => q3 h.2)] at bw
        simp (config := { maxSteps := 1000000 }) (disch := (first | omega | decide | assumption)) only [ltm_s, ok_n, rd_i, rd_j, fd_i, fd_j, wr_i, wr_j, fw_i, fw_j, ci_s, cj_s, cv_s, dv_n, dw_n, rt_1, rt_b, rt_20, rt_21, okb_0, okb_1, okb_b, nar_0, nar_1, nar_b, i_0, i_1, j_0, j_1, i_lit, j_lit, i_n, iI_add, iI_sub, iI_mul, iI_neg, jI_add, jI_sub, jI_mul, jI_neg, sh_1, an_1, xo_1, di_p, dj_p, i_64A, i_64, j_32, lq_ge, lq_lt, lq_le, lq_gt, lq_eq, i_lt, i_le, i_eq, j_eq, iI_A, jI_J, iI_b, iI_v, jI_v, ↓reduceIte, ite_true, ite_false, Int.reduceEq, Int.reduceLT, Int.reduceLE, Int.reduceAdd, Int.reduceSub, Int.reduceMul, Int.reduceNeg, not_true_eq_false, not_false_eq_true, agA hA, agJA hA, ag hA, v_nJ, v_nW, v_nD, v_toD, v_px, v_py, v_rg, v_kd, v_ft, v_on, v_bg, v_en, @nJ_ M0, @nW_ M0, @nD_ M0, @toD_ M0, @px_ M0, @py_ M0, @rg_ M0, @kd_ M0, @ft_ M0, @on_ M0, bt_, h78', h68', q1', bw]
    · have q5 : ¬ (m = 0 ∧ ¬ 0 < ahd_ M0 a b e) := fun h => q2 h.1
      by_cases q4 : A M0 230 b = e % 2
      · have q4' := eq_true q4
        rcases r01 with q | q
        · rw [whl_c q1 q5 ⟨fun _ => q, fun _ => q4⟩]
          have h82' : A M 219 82 = 1 := by omega
          simp (config := { maxSteps := 1000000 }) (disch := (first | omega | decide | assumption)) only [ltm_s, ok_n, rd_i, rd_j, fd_i, fd_j, wr_i, wr_j, fw_i, fw_j, ci_s, cj_s, cv_s, dv_n, dw_n, rt_1, rt_b, rt_20, rt_21, okb_0, okb_1, okb_b, nar_0, nar_1, nar_b, i_0, i_1, j_0, j_1, i_lit, j_lit, i_n, iI_add, iI_sub, iI_mul, iI_neg, jI_add, jI_sub, jI_mul, jI_neg, sh_1, an_1, xo_1, di_p, dj_p, i_64A, i_64, j_32, lq_ge, lq_lt, lq_le, lq_gt, lq_eq, i_lt, i_le, i_eq, j_eq, iI_A, jI_J, iI_b, iI_v, jI_v, ↓reduceIte, ite_true, ite_false, Int.reduceEq, Int.reduceLT, Int.reduceLE, Int.reduceAdd, Int.reduceSub, Int.reduceMul, Int.reduceNeg, not_true_eq_false, not_false_eq_true, agA hA, agJA hA, ag hA, v_nJ, v_nW, v_nD, v_toD, v_px, v_py, v_rg, v_kd, v_ft, v_on, v_bg, v_en, @nJ_ M0, @nW_ M0, @nD_ M0, @toD_ M0, @px_ M0, @py_ M0, @rg_ M0, @kd_ M0, @ft_ M0, @on_ M0, bt_, h78, h68, q2, q1', ed, q4', h82']
        · rw [whl_d q1 q5 (fun h => by have := h.mp q4; omega)]
          have h82' : A M 219 82 = 0 := by omega
          simp (config := { maxSteps := 1000000 }) (disch := (first | omega | decide | assumption)) only [ltm_s, ok_n, rd_i, rd_j, fd_i, fd_j, wr_i, wr_j, fw_i, fw_j, ci_s, cj_s, cv_s, dv_n, dw_n, rt_1, rt_b, rt_20, rt_21, okb_0, okb_1, okb_b, nar_0, nar_1, nar_b, i_0, i_1, j_0, j_1, i_lit, j_lit, i_n, iI_add, iI_sub, iI_mul, iI_neg, jI_add, jI_sub, jI_mul, jI_neg, sh_1, an_1, xo_1, di_p, dj_p, i_64A, i_64, j_32, lq_ge, lq_lt, lq_le, lq_gt, lq_eq, i_lt, i_le, i_eq, j_eq, iI_A, jI_J, iI_b, iI_v, jI_v, ↓reduceIte, ite_true, ite_false, Int.reduceEq, Int.reduceLT, Int.reduceLE, Int.reduceAdd, Int.reduceSub, Int.reduceMul, Int.reduceNeg, not_true_eq_false, not_false_eq_true, agA hA, agJA hA, ag hA, v_nJ, v_nW, v_nD, v_toD, v_px, v_py, v_rg, v_kd, v_ft, v_on, v_bg, v_en, @nJ_ M0, @nW_ M0, @nD_ M0, @toD_ M0, @px_ M0, @py_ M0, @rg_ M0, @kd_ M0, @ft_ M0, @on_ M0, bt_, h78, h68, q2, q1', ed, q4', h82']
      · rcases r01 with q | q
        · rw [whl_d q1 q5 (fun h => q4 (h.mpr q))]
          have h82' : A M 219 82 = 1 := by omega
          simp (config := { maxSteps := 1000000 }) (disch := (first | omega | decide | assumption)) only [ltm_s, ok_n, rd_i, rd_j, fd_i, fd_j, wr_i, wr_j, fw_i, fw_j, ci_s, cj_s, cv_s, dv_n, dw_n, rt_1, rt_b, rt_20, rt_21, okb_0, okb_1, okb_b, nar_0, nar_1, nar_b, i_0, i_1, j_0, j_1, i_lit, j_lit, i_n, iI_add, iI_sub, iI_mul, iI_neg, jI_add, jI_sub, jI_mul, jI_neg, sh_1, an_1, xo_1, di_p, dj_p, i_64A, i_64, j_32, lq_ge, lq_lt, lq_le, lq_gt, lq_eq, i_lt, i_le, i_eq, j_eq, iI_A, jI_J, iI_b, iI_v, jI_v, ↓reduceIte, ite_true, ite_false, Int.reduceEq, Int.reduceLT, Int.reduceLE, Int.reduceAdd, Int.reduceSub, Int.reduceMul, Int.reduceNeg, not_true_eq_false, not_false_eq_true, agA hA, agJA hA, ag hA, v_nJ, v_nW, v_nD, v_toD, v_px, v_py, v_rg, v_kd, v_ft, v_on, v_bg, v_en, @nJ_ M0, @nW_ M0, @nD_ M0, @toD_ M0, @px_ M0, @py_ M0, @rg_ M0, @kd_ M0, @ft_ M0, @on_ M0, bt_, h78, h68, q2, q1', ed, q4, h82']
        · rw [whl_c q1 q5 ⟨fun h => absurd h q4, fun h => by omega⟩]
          have h82' : A M 219 82 = 0 := by omega
          simp (config := { maxSteps := 1000000 }) (disch := (first | omega | decide | assumption)) only [ltm_s, ok_n, rd_i, rd_j, fd_i, fd_j, wr_i, wr_j, fw_i, fw_j, ci_s, cj_s, cv_s, dv_n, dw_n, rt_1, rt_b, rt_20, rt_21, okb_0, okb_1, okb_b, nar_0, nar_1, nar_b, i_0, i_1, j_0, j_1, i_lit, j_lit, i_n, iI_add, iI_sub, iI_mul, iI_neg, jI_add, jI_sub, jI_mul, jI_neg, sh_1, an_1, xo_1, di_p, dj_p, i_64A, i_64, j_32, lq_ge, lq_lt, lq_le, lq_gt, lq_eq, i_lt, i_le, i_eq, j_eq, iI_A, jI_J, iI_b, iI_v, jI_v, ↓reduceIte, ite_true, ite_false, Int.reduceEq, Int.reduceLT, Int.reduceLE, Int.reduceAdd, Int.reduceSub, Int.reduceMul, Int.reduceNeg, not_true_eq_false, not_false_eq_true, agA hA, agJA hA, ag hA, v_nJ, v_nW, v_nD, v_toD, v_px, v_py, v_rg, v_kd, v_ft, v_on, v_bg, v_en, @nJ_ M0, @nW_ M0, @nD_ M0, @toD_ M0, @px_ M0, @py_ M0, @rg_ M0, @kd_ M0, @ft_ M0, @on_ M0, bt_, h78, h68, q2, q1', ed, q4, h82']
  · rw [whl_a q1]
    simp (config := { maxSteps := 1000000 }) (disch := (first | omega | decide | assumption)) only [ltm_s, ok_n, rd_i, rd_j, fd_i, fd_j, wr_i, wr_j, fw_i, fw_j, ci_s, cj_s, cv_s, dv_n, dw_n, rt_1, rt_b, rt_20, rt_21, okb_0, okb_1, okb_b, nar_0, nar_1, nar_b, i_0, i_1, j_0, j_1, i_lit, j_lit, i_n, iI_add, iI_sub, iI_mul, iI_neg, jI_add, jI_sub, jI_mul, jI_neg, sh_1, an_1, xo_1, di_p, dj_p, i_64A, i_64, j_32, lq_ge, lq_lt, lq_le, lq_gt, lq_eq, i_lt, i_le, i_eq, j_eq, iI_A, jI_J, iI_b, iI_v, jI_v, ↓reduceIte, ite_true, ite_false, Int.reduceEq, Int.reduceLT, Int.reduceLE, Int.reduceAdd, Int.reduceSub, Int.reduceMul, Int.reduceNeg, not_true_eq_false, not_false_eq_true, agA hA, agJA hA, ag hA, v_nJ, v_nW, v_nD, v_toD, v_px, v_py, v_rg, v_kd, v_ft, v_on, v_bg, v_en, @nJ_ M0, @nW_ M0, @nD_ M0, @toD_ M0, @px_ M0, @py_ M0, @rg_ M0, @kd_ M0, @ft_ M0, @on_ M0, bt_, h78, h68, q1]
theorem fset_k {md : Int × Int × Int × Int} (h : fset M0 md N) (k : ∀ (a : Nat) (z : Int), 32 ≤ a → a ≤ 36 → A X a z = A N a z) : fset M0 md X := by
  obtain ⟨⟨m1, m2, m3⟩, f1, f2, f3, f4⟩ := h
  have e32 : ∀ z : Int, A X 32 z = A N 32 z := fun z => k 32 z (by omega) (by omega)
  have e33 : ∀ z : Int, A X 33 z = A N 33 z := fun z => k 33 z (by omega) (by omega)
  have e34 : ∀ z : Int, A X 34 z = A N 34 z := fun z => k 34 z (by omega) (by omega)
  have e35 : ∀ z : Int, A X 35 z = A N 35 z := fun z => k 35 z (by omega) (by omega)
  have e36 : ∀ z : Int, A X 36 z = A N 36 z := fun z => k 36 z (by omega) (by omega)
  unfold fset Imk
  simp only [e32, e33, e34, e35, e36]
  exact ⟨⟨m1, m2, m3⟩, f1, f2, f3, f4⟩
theorem rok_91 (hg : GG g) {r : Nat} (hr : r < 10) : rok g (91 + 2 * r) := by
  have h : ∀ r : Nat, r < 10 → stN (91 + 2 * r) = true ∧ stN (91 + 2 * r + 1) = true := by decide
  exact ⟨gj_90 hg r hr, by omega, (h r hr).1, (h r hr).2⟩
theorem dr_l (hF : F = am_F T0 g) (hg : GG g) (h1 : I1 M0) (h2 : I2 M0) (h3 : I3 M0) (h4 : I4 M0) (h5 : I5 M0) (h8 : I8 M0) (hr : rok g rt) {a b hour m rtd : Int} {how wd : Int → Int} (a0 : 0 ≤ a) (a1 : a < nD M0) (b0 : 0 ≤ b) (b1 : b < nD M0) (v0 : 0 ≤ hour) (v1 : hour < 24) (m0 : 0 ≤ m) (m1 : m ≤ 20) (r01 : rtd = 0 ∨ rtd = 1) (hh : ∀ j : Int, 0 ≤ j → j < m → (0 ≤ how j ∧ how j ≤ 11) ∧ j64 (wd j)) : ∀ (mm i : Nat) (leg : Int → Int), (i : Int) + mm = m → Drv M0 a b i leg → ∃ (cd : Int) (lg : Int → Int), (0 ≤ cd ∧ cd ≤ 300) ∧ (cd = 0 → Drv M0 a b m lg ∧ lg m / 2 = A M0 228 b ∧ (m = 0 → 0 < ahd_ M0 a b (lg 0))) ∧
    (∀ N : am_M, Ag M0 N → fset M0 (-1, toD M0, hour, toD M0) N → A N 63 1 = rtd → A N 63 2 = m → (∀ j : Int, 0 ≤ j → j < m → A N 64 j = how j ∧ J N 65 j = wd j) → rt ≠ 63 → rt ≠ 64 → rt ≠ 65 → rt + 1 ≠ 63 → rt + 1 ≠ 64 → rt + 1 ≠ 65 → A N rt 5 = (i : Int) + 1 → A N rt 0 = a → A N rt 1 = b → (∀ j : Int, 0 ≤ j → j ≤ (i : Int) → A N (rt + 1) j = leg j) → ∃ N' : am_M, F 249 39 [.ref 32, .ref 63, .ref rt, .int (iI (leg i)), .int (iI (i : Int))] [] N = some (some (.int (iI cd)), N') ∧ Ke [rt, rt + 1] N N' ∧ (∀ z : Int, 0 ≤ z → ¬ z = 5 → A N' rt z = A N rt z) ∧ (cd = 0 → A N' rt 5 = m + 1 ∧ ∀ j : Int, 0 ≤ j → j ≤ m → A N' (rt + 1) j = lg j)) ∧
    (∀ M1 X : am_M, Bs M0 M1 → Ag M1 X → A X 219 78 = m → A X 219 82 = 1 - rtd → (∀ j : Int, 0 ≤ j → j < m → A X 266 j = how j ∧ J X 267 j = wd j) → (∀ j : Int, 0 ≤ j → j ≤ (i : Int) → A X 268 j = leg j) → ∃ X' : am_M, Ch [268] [] X X' ∧ Ag M1 X' ∧ (¬ cd = 0 → F 252 124 [.ref 219, .int (iI a), .int (iI b), .int (iI hour), .int (iI ((i : Int) + 1))] [] X = some (some (.int (iI (-1000 - cd))), X')) ∧ (cd = 0 → (∀ j : Int, 0 ≤ j → j ≤ m → A X' 268 j = lg j) ∧ ∀ (Y : am_M) (y : Int), F 186 0 [.ref 219, .int (iI a), .int (iI b), .int (iI hour)] [] X' = some (none, Y) → A Y 219 37 = y → 0 ≤ y → y ≤ 100 → F 252 124 [.ref 219, .int (iI a), .int (iI b), .int (iI hour), .int (iI ((i : Int) + 1))] [] X = some (some (.int (iI (y - 1))), Y))) := by
  have hn := h2.1
  have hd := h4.1
  have h42 := hr.2.1
  intro mm
  induction mm with
  | zero =>
    intro i leg hi hD
    have ei : (i : Int) = m := by omega
    rw [ei] at hD ⊢
    obtain ⟨d1, d2, d3⟩ := hD
    obtain ⟨l0, l1⟩ := d1 m m0 (Int.le_refl _)
    obtain ⟨e, ee⟩ : ∃ e : Int, e = leg m := ⟨_, rfl⟩
    rw [← ee] at l0 l1
    obtain ⟨y, ey⟩ : ∃ y : Int, y = whl M0 a b e m rtd := ⟨_, rfl⟩
    have yr : y = 0 ∨ y = 6 ∨ y = 7 := by
      rw [ey]; unfold whl
      repeat' split
      all_goals omega
    have cN : ∀ N : am_M, Ag M0 N → A N rt 5 = m + 1 → A N rt 0 = a → A N rt 1 = b → F 101 0 [.ref 32, .int (iI e), .ref rt, .int (iI rtd)] [] N = some (some (.int (iI y)), N) := fun N hA hl ha hb => by
      rw [ey]; exact c_whyLast hF hg hA h2 h4 hr a0 a1 b0 b1 l0 l1 m0 m1 r01 hl ha hb
    have mX : ∀ M1 X : am_M, Bs M0 M1 → Ag M1 X → A X 219 78 = m → A X 219 82 = 1 - rtd → A X 268 m = e → F 142 0 [.ref 219, .int (iI a), .int (iI b)] [] X = some (some (.int (iI y)), X) := fun M1 X bs hA q78 q82 q68 => by
      obtain ⟨sm, k1, k2, k4, -⟩ := bs
      have nWe := sm.nWE
      have nDe := sm.nDE
      have wle := sm_whl sm
      have e228 : ∀ z : Int, A M1 228 z = A M0 228 z := sm.2.2.2.2.2.2.2.2.2.2.2.2.2.2.2.1
      have hmw : m = 0 → e / 2 = A M1 228 a := fun q => by
        rw [e228, ee, q]; exact d3
      rw [ey, ← wle]
      exact m_whyLast hF hg hA k2 k4 a0 (by rw [nDe]; exact a1) b0 (by rw [nDe]; exact b1) l0 (by rw [nWe]; exact l1) m0 m1 r01 q78 q82 q68 hmw
    have um : m < m + 1 := by omega
    by_cases q : y = 0
    · refine ⟨0, leg, by omega, fun _ => ⟨⟨d1, d2, d3⟩, ?_, fun qm => ?_⟩, fun N hA hs s1 s2 s3 n1 n2 n3 n4 n5 n6 hl ha hb hlg => ?_, fun M1 X bs hA q78 q82 hrw hlg => ?_⟩
      · rw [← ee]
        by_cases z : e / 2 = A M0 228 b
        · exact z
        · rw [ey, whl_a z] at q; omega
      · have e0 : leg 0 = e := by rw [ee, qm]
        rw [e0]
        by_cases z : 0 < ahd_ M0 a b e
        · exact z
        · by_cases z2 : e / 2 = A M0 228 b
          · rw [ey, whl_b z2 ⟨qm, z⟩] at q; omega
          · rw [ey, whl_a z2] at q; omega
      · have w := cN N hA hl ha hb
        rw [q] at w
        refine ⟨N, ?_, Ke.refl, fun z _ _ => rfl, fun _ => ⟨hl, hlg⟩⟩
        have um' : m ≤ m := Int.le_refl _
        rw [← ee]
        refine s_Finder_driveSpeech_39 hF hg hr.1 ?_
        simp (config := { maxSteps := 1000000 }) (disch := (first | omega | decide | assumption)) only [ltm_s, ok_n, rd_i, rd_j, fd_i, fd_j, wr_i, wr_j, fw_i, fw_j, ci_s, cj_s, cv_s, dv_n, dw_n, rt_1, rt_b, rt_20, rt_21, okb_0, okb_1, okb_b, nar_0, nar_1, nar_b, i_0, i_1, j_0, j_1, i_lit, j_lit, i_n, iI_add, iI_sub, iI_mul, iI_neg, jI_add, jI_sub, jI_mul, jI_neg, sh_1, an_1, xo_1, di_p, dj_p, i_64A, i_64, j_32, lq_ge, lq_lt, lq_le, lq_gt, lq_eq, i_lt, i_le, i_eq, j_eq, iI_A, jI_J, iI_b, iI_v, jI_v, ↓reduceIte, ite_true, ite_false, Int.reduceEq, Int.reduceLT, Int.reduceLE, Int.reduceAdd, Int.reduceSub, Int.reduceMul, Int.reduceNeg, not_true_eq_false, not_false_eq_true, s1, s2, um', w]
      · have w := mX M1 X bs hA q78 q82 (by rw [ee]; exact hlg m m0 (Int.le_refl _))
        rw [q] at w
        refine ⟨X, Ch.refl, hA, fun h => absurd rfl h, fun _ => ⟨hlg, fun Y y' hY hy y0 y1 => ?_⟩⟩
        refine s_Model_say_124 hF hg ?_
        simp (config := { maxSteps := 1000000 }) (disch := (first | omega | decide | assumption)) only [ltm_s, ok_n, rd_i, rd_j, fd_i, fd_j, wr_i, wr_j, fw_i, fw_j, ci_s, cj_s, cv_s, dv_n, dw_n, rt_1, rt_b, rt_20, rt_21, okb_0, okb_1, okb_b, nar_0, nar_1, nar_b, i_0, i_1, j_0, j_1, i_lit, j_lit, i_n, iI_add, iI_sub, iI_mul, iI_neg, jI_add, jI_sub, jI_mul, jI_neg, sh_1, an_1, xo_1, di_p, dj_p, i_64A, i_64, j_32, lq_ge, lq_lt, lq_le, lq_gt, lq_eq, i_lt, i_le, i_eq, j_eq, iI_A, jI_J, iI_b, iI_v, jI_v, ↓reduceIte, ite_true, ite_false, Int.reduceEq, Int.reduceLT, Int.reduceLE, Int.reduceAdd, Int.reduceSub, Int.reduceMul, Int.reduceNeg, not_true_eq_false, not_false_eq_true, q78, um, w, hY, hy]
    · refine ⟨10 * m + y, leg, by omega, fun h => by omega, fun N hA hs s1 s2 s3 n1 n2 n3 n4 n5 n6 hl ha hb hlg => ?_, fun M1 X bs hA q78 q82 hrw hlg => ?_⟩
      · have w := cN N hA hl ha hb
        refine ⟨N, ?_, Ke.refl, fun z _ _ => rfl, fun h => by omega⟩
        have um' : m ≤ m := Int.le_refl _
        rw [← ee]
        refine s_Finder_driveSpeech_39 hF hg hr.1 ?_
        simp (config := { maxSteps := 1000000 }) (disch := (first | omega | decide | assumption)) only [ltm_s, ok_n, rd_i, rd_j, fd_i, fd_j, wr_i, wr_j, fw_i, fw_j, ci_s, cj_s, cv_s, dv_n, dw_n, rt_1, rt_b, rt_20, rt_21, okb_0, okb_1, okb_b, nar_0, nar_1, nar_b, i_0, i_1, j_0, j_1, i_lit, j_lit, i_n, iI_add, iI_sub, iI_mul, iI_neg, jI_add, jI_sub, jI_mul, jI_neg, sh_1, an_1, xo_1, di_p, dj_p, i_64A, i_64, j_32, lq_ge, lq_lt, lq_le, lq_gt, lq_eq, i_lt, i_le, i_eq, j_eq, iI_A, jI_J, iI_b, iI_v, jI_v, ↓reduceIte, ite_true, ite_false, Int.reduceEq, Int.reduceLT, Int.reduceLE, Int.reduceAdd, Int.reduceSub, Int.reduceMul, Int.reduceNeg, not_true_eq_false, not_false_eq_true, s1, s2, um', w, q]
      · have w := mX M1 X bs hA q78 q82 (by rw [ee]; exact hlg m m0 (Int.le_refl _))
        refine ⟨X, Ch.refl, hA, fun _ => ?_, fun h => by omega⟩
        have er : -1000 - 10 * m - y = -1000 - (10 * m + y) := by omega
        refine s_Model_say_124 hF hg ?_
        simp (config := { maxSteps := 1000000 }) (disch := (first | omega | decide | assumption)) only [ltm_s, ok_n, rd_i, rd_j, fd_i, fd_j, wr_i, wr_j, fw_i, fw_j, ci_s, cj_s, cv_s, dv_n, dw_n, rt_1, rt_b, rt_20, rt_21, okb_0, okb_1, okb_b, nar_0, nar_1, nar_b, i_0, i_1, j_0, j_1, i_lit, j_lit, i_n, iI_add, iI_sub, iI_mul, iI_neg, jI_add, jI_sub, jI_mul, jI_neg, sh_1, an_1, xo_1, di_p, dj_p, i_64A, i_64, j_32, lq_ge, lq_lt, lq_le, lq_gt, lq_eq, i_lt, i_le, i_eq, j_eq, iI_A, jI_J, iI_b, iI_v, jI_v, ↓reduceIte, ite_true, ite_false, Int.reduceEq, Int.reduceLT, Int.reduceLE, Int.reduceAdd, Int.reduceSub, Int.reduceMul, Int.reduceNeg, not_true_eq_false, not_false_eq_true, q78, um, w, q, er]
  | succ mm ih =>
    intro i leg hi hD
    have hs1 : ((i + 1 : Nat) : Int) = (i : Int) + 1 := by omega
    have im : ¬ m ≤ (i : Int) := by omega
    have im2 : ¬ m < (i : Int) + 1 := by omega
    obtain ⟨d1, d2, d3⟩ := hD
    obtain ⟨l0, l1⟩ := d1 i (by omega) (Int.le_refl _)
    obtain ⟨e, ee⟩ : ∃ e : Int, e = leg i := ⟨_, rfl⟩
    rw [← ee] at l0 l1
    obtain ⟨⟨u0, u1⟩, uw⟩ := hh i (by omega) (by omega)
    obtain ⟨r, -, nx⟩ := c_legCalled hF hg (Ag.refl M0) h1 h2 h3 h5 h8 l0 l1 u0 u1 uw
    have cN : ∀ N : am_M, Ag M0 N → F 232 0 [.ref 32, .int (iI e), .long (jI (wd i)), .int (iI (how i))] [] N = some (some (.int (iI r)), N) := fun N hA => by
      obtain ⟨r', x1, x2⟩ := c_legCalled hF hg hA h1 h2 h3 h5 h8 l0 l1 u0 u1 uw
      rw [Nxt_u x2 nx] at x1; exact x1
    obtain ⟨y, ey⟩ : ∃ y : Int, y = whn M0 e hour r := ⟨_, rfl⟩
    have mX : ∀ M1 X : am_M, Bs M0 M1 → Ag M1 X → A X 266 i = how i → J X 267 i = wd i → ∃ X' : am_M, F 238 0 [.ref 219, .int (iI ((i : Int) + 1)), .int (iI e), .int (iI hour)] [] X = some (some (.int (iI y)), X') ∧ X' = if r < 0 then X else W_ X 268 ((i : Int) + 1) r := fun M1 X bs hA x6 x7 => by
      obtain ⟨sm, k1, k2, k4, k5, k6, k7, k8⟩ := bs
      have nWe := sm.nWE
      have tde : toD M1 = toD M0 := sm.2.2.2.1
      have wne := sm_whn sm
      have nxe := sm_nxt sm
      have e1 : (i : Int) + 1 - 1 = i := by omega
      rw [ey, ← wne]
      exact m_whyNot hF hg hA k1 k2 k5 k6 k7 k8 (how := how i) (w := wd i) (by omega) (by omega) l0 (by rw [nWe]; exact l1) u0 u1 uw v0 v1 (by rw [e1]; exact x7) (by rw [e1]; exact x6) (by rw [nxe, tde]; exact nx)
    have rlo : -3 ≤ r := by
      by_cases z : r < 0
      · rcases (nx.2 z).2 with c | c
        · have := c.1; omega
        · have := c.1; omega
      · omega
    by_cases q : y = 0
    · -- further
      have r0 : 0 ≤ r := by
        by_cases z : r < 0
        · rw [ey, whn_n z] at q; omega
        · omega
      obtain ⟨r1, ⟨⟨rf, -⟩, -⟩, -⟩ := nx.1 r0
      obtain ⟨leg', el⟩ : ∃ l : Int → Int, l = fun j => if j = (i : Int) + 1 then r else leg j := ⟨_, rfl⟩
      have ln : leg' ((i : Int) + 1) = r := by rw [el]; exact if_pos rfl
      have lo : ∀ j : Int, j ≤ (i : Int) → leg' j = leg j := fun j hj => by rw [el]; exact if_neg (by omega)
      obtain ⟨cd, lg, o1, o2, oc, om⟩ := ih (i + 1) leg' (by omega) (by
        rw [hs1]
        refine ⟨fun j j0 j1 => ?_, fun j j0 j1 => ?_, by rw [lo 0 (by omega)]; exact d3⟩
        · by_cases z : j = (i : Int) + 1
          · rw [z, ln]; exact ⟨r0, r1⟩
          · rw [lo j (by omega)]; exact d1 j j0 (by omega)
        · by_cases z : j = i
          · rw [z, ln, lo i (Int.le_refl _), ← ee]; exact rf
          · rw [lo j (by omega), lo (j + 1) (by omega)]; exact d2 j j0 (by omega))
      rw [hs1, ln] at oc
      rw [hs1] at om
      refine ⟨cd, lg, o1, o2, fun N hA hs s1 s2 s3 n1 n2 n3 n4 n5 n6 hl ha hb hlg => ?_, fun M1 X bs hA q78 q82 hrw hlg => ?_⟩
      · have w := cN N hA
        have w2 := c_whyInto hF hg h2 h8 hs l0 l1 r0 r1 rf
        rw [← ey, q] at w2
        have w3 := c_add hF hg hr.1 (f := r) hl (by omega) (by omega)
        obtain ⟨Y, eY⟩ : ∃ Y : am_M, Y = W_ (W_ N (rt + 1) ((i : Int) + 1) r) rt 5 ((i : Int) + 1 + 1) := ⟨_, rfl⟩
        rw [← eY] at w3
        have kY : Ke [rt, rt + 1] N Y := by rw [eY]; exact (Ke.refl.w (by simp)).w (by simp)
        have aY : ∀ (c : Nat) (z : Int), c ≠ rt → c ≠ rt + 1 → A Y c z = A N c z := fun c z c1 c2 => kY.a (by simp only [List.mem_cons, List.not_mem_nil, or_false]; omega)
        have jY : ∀ (c : Nat) (z : Int), J Y c z = J N c z := fun c z => by rw [eY, J_W, J_W]
        obtain ⟨N', x1, x2, x3, x4⟩ := oc Y (hA.trans (kY.ag (by show (stN rt && (stN (rt + 1) && true)) = true; rw [hr.2.2.1, hr.2.2.2]; rfl))) (fset_k hs (fun c z c0 c1 => aY c z (by omega) (by omega))) (by rw [aY _ _ (by omega) (by omega)]; exact s1) (by rw [aY _ _ (by omega) (by omega)]; exact s2) (fun j j0 j1 => by rw [aY _ _ (by omega) (by omega), jY]; exact s3 j j0 j1) n1 n2 n3 n4 n5 n6 (by rw [eY]; exact A_Ws (by omega) (by omega)) (by rw [eY, A_Wo (by omega) (by omega) (by omega), A_Wn (by omega)]; exact ha) (by rw [eY, A_Wo (by omega) (by omega) (by omega), A_Wn (by omega)]; exact hb) (fun j j0 j1 => by
          rw [eY, A_Wn (by omega)]
          by_cases z : j = (i : Int) + 1
          · rw [z, ln]; exact A_Ws (by omega) (by omega)
          · rw [lo j (by omega), A_Wo (by omega) j0 z]; exact hlg j j0 (by omega))
        refine ⟨N', ?_, kY.trans x2, fun z z0 z1 => ?_, x4⟩
        · have s3i := s3 i (by omega) (by omega)
          have s31 := s3i.1
          have s32 := s3i.2
          have r0' : 0 ≤ r := r0
          rw [← ee]
          refine s_Finder_driveSpeech_39 hF hg hr.1 ?_
          simp (config := { maxSteps := 1000000 }) (disch := (first | omega | decide | assumption)) only [ltm_s, ok_n, rd_i, rd_j, fd_i, fd_j, wr_i, wr_j, fw_i, fw_j, ci_s, cj_s, cv_s, dv_n, dw_n, rt_1, rt_b, rt_20, rt_21, okb_0, okb_1, okb_b, nar_0, nar_1, nar_b, i_0, i_1, j_0, j_1, i_lit, j_lit, i_n, iI_add, iI_sub, iI_mul, iI_neg, jI_add, jI_sub, jI_mul, jI_neg, sh_1, an_1, xo_1, di_p, dj_p, i_64A, i_64, j_32, lq_ge, lq_lt, lq_le, lq_gt, lq_eq, i_lt, i_le, i_eq, j_eq, iI_A, jI_J, iI_b, iI_v, jI_v, ↓reduceIte, ite_true, ite_false, Int.reduceEq, Int.reduceLT, Int.reduceLE, Int.reduceAdd, Int.reduceSub, Int.reduceMul, Int.reduceNeg, not_true_eq_false, not_false_eq_true, s2, im, s31, s32, w, r0', w2, w3, x1]
        · rw [x3 z z0 z1, eY, A_Wo (by omega) z0 z1, A_Wn (by omega)]
      · obtain ⟨x6, x7⟩ := hrw i (by omega) (by omega)
        obtain ⟨X', w1, w2⟩ := mX M1 X bs hA x6 x7
        rw [if_neg (by omega)] at w2
        rw [q] at w1
        have cX : Ch [268] [] X X' := by rw [w2]; exact Ch.refl.wm (Or.inl (by decide))
        have aX : Ag M1 X' := by rw [w2]; exact hA.w rfl
        obtain ⟨X2, x1, x2, x3, x4⟩ := om M1 X' bs aX ((cX.f (a := 219) (z := 78) rfl).trans q78) ((cX.f (a := 219) (z := 82) rfl).trans q82) (fun j j0 j1 => ⟨(cX.a rfl).trans (hrw j j0 j1).1, (cX.j rfl rfl).trans (hrw j j0 j1).2⟩) (fun j j0 j1 => by
          rw [w2]
          by_cases z : j = (i : Int) + 1
          · rw [z, ln]; exact A_Ws (by omega) (by omega)
          · rw [lo j (by omega), A_Wo (by omega) j0 z]; exact hlg j j0 (by omega))
        have e68 : A X 268 i = e := by rw [ee]; exact hlg i (by omega) (Int.le_refl _)
        have ei1 : (i : Int) + 1 - 1 = i := by omega
        refine ⟨X2, cX.trans x1, x2, fun h => ?_, fun h => ⟨(x4 h).1, fun Y y' hY hy y0 y1 => ?_⟩⟩
        · have x3 := x3 h
          refine s_Model_say_124 hF hg ?_
          simp (config := { maxSteps := 1000000 }) (disch := (first | omega | decide | assumption)) only [ltm_s, ok_n, rd_i, rd_j, fd_i, fd_j, wr_i, wr_j, fw_i, fw_j, ci_s, cj_s, cv_s, dv_n, dw_n, rt_1, rt_b, rt_20, rt_21, okb_0, okb_1, okb_b, nar_0, nar_1, nar_b, i_0, i_1, j_0, j_1, i_lit, j_lit, i_n, iI_add, iI_sub, iI_mul, iI_neg, jI_add, jI_sub, jI_mul, jI_neg, sh_1, an_1, xo_1, di_p, dj_p, i_64A, i_64, j_32, lq_ge, lq_lt, lq_le, lq_gt, lq_eq, i_lt, i_le, i_eq, j_eq, iI_A, jI_J, iI_b, iI_v, jI_v, ↓reduceIte, ite_true, ite_false, Int.reduceEq, Int.reduceLT, Int.reduceLE, Int.reduceAdd, Int.reduceSub, Int.reduceMul, Int.reduceNeg, not_true_eq_false, not_false_eq_true, q78, im2, ei1, e68, w1, x3]
        · have x5 := (x4 h).2 Y y' hY hy y0 y1
          refine s_Model_say_124 hF hg ?_
          simp (config := { maxSteps := 1000000 }) (disch := (first | omega | decide | assumption)) only [ltm_s, ok_n, rd_i, rd_j, fd_i, fd_j, wr_i, wr_j, fw_i, fw_j, ci_s, cj_s, cv_s, dv_n, dw_n, rt_1, rt_b, rt_20, rt_21, okb_0, okb_1, okb_b, nar_0, nar_1, nar_b, i_0, i_1, j_0, j_1, i_lit, j_lit, i_n, iI_add, iI_sub, iI_mul, iI_neg, jI_add, jI_sub, jI_mul, jI_neg, sh_1, an_1, xo_1, di_p, dj_p, i_64A, i_64, j_32, lq_ge, lq_lt, lq_le, lq_gt, lq_eq, i_lt, i_le, i_eq, j_eq, iI_A, jI_J, iI_b, iI_v, jI_v, ↓reduceIte, ite_true, ite_false, Int.reduceEq, Int.reduceLT, Int.reduceLE, Int.reduceAdd, Int.reduceSub, Int.reduceMul, Int.reduceNeg, not_true_eq_false, not_false_eq_true, q78, im2, ei1, e68, w1, x5]
    · -- a fault
      have yr : 2 ≤ y ∧ y ≤ 5 := by
        rw [ey]
        rw [ey] at q
        by_cases z : r < 0
        · rw [whn_n z]
          rcases (nx.2 z).2 with c | c
          · have := c.1; omega
          · have := c.1; omega
        · have z' : 0 ≤ r := by omega
          by_cases qd : drv M0 r (toD M0) hour (toD M0)
          · by_cases qb : bnd M0 e r (toD M0) hour
            · rw [whn_5 z' qd qb]; omega
            · exact absurd (whn_0 z' qd qb) q
          · rw [whn_4 z' qd]; omega
      refine ⟨10 * ((i : Int) + 1) + y, leg, by omega, fun h => by omega, fun N hA hs s1 s2 s3 n1 n2 n3 n4 n5 n6 hl ha hb hlg => ?_, fun M1 X bs hA q78 q82 hrw hlg => ?_⟩
      · have w := cN N hA
        have s3i := s3 i (by omega) (by omega)
        have s31 := s3i.1
        have s32 := s3i.2
        refine ⟨N, ?_, Ke.refl, fun z _ _ => rfl, fun h => by omega⟩
        rw [← ee]
        refine s_Finder_driveSpeech_39 hF hg hr.1 ?_
        by_cases z : r < 0
        · have z1 : ¬ 0 ≤ r := by omega
          have z2 : ¬ -r = 0 := by omega
          have ey' : y = -r := by rw [ey]; exact whn_n z
          rw [ey']
          simp (config := { maxSteps := 1000000 }) (disch := (first | omega | decide | assumption)) only [ltm_s, ok_n, rd_i, rd_j, fd_i, fd_j, wr_i, wr_j, fw_i, fw_j, ci_s, cj_s, cv_s, dv_n, dw_n, rt_1, rt_b, rt_20, rt_21, okb_0, okb_1, okb_b, nar_0, nar_1, nar_b, i_0, i_1, j_0, j_1, i_lit, j_lit, i_n, iI_add, iI_sub, iI_mul, iI_neg, jI_add, jI_sub, jI_mul, jI_neg, sh_1, an_1, xo_1, di_p, dj_p, i_64A, i_64, j_32, lq_ge, lq_lt, lq_le, lq_gt, lq_eq, i_lt, i_le, i_eq, j_eq, iI_A, jI_J, iI_b, iI_v, jI_v, ↓reduceIte, ite_true, ite_false, Int.reduceEq, Int.reduceLT, Int.reduceLE, Int.reduceAdd, Int.reduceSub, Int.reduceMul, Int.reduceNeg, not_true_eq_false, not_false_eq_true, s2, im, s31, s32, w, z1, z2]
        · obtain ⟨r1, ⟨⟨rf, -⟩, -⟩, -⟩ := nx.1 (by omega)
          have r0' : 0 ≤ r := by omega
          have w2 := c_whyInto hF hg h2 h8 hs l0 l1 r0' r1 rf
          rw [← ey] at w2
          simp (config := { maxSteps := 1000000 }) (disch := (first | omega | decide | assumption)) only [ltm_s, ok_n, rd_i, rd_j, fd_i, fd_j, wr_i, wr_j, fw_i, fw_j, ci_s, cj_s, cv_s, dv_n, dw_n, rt_1, rt_b, rt_20, rt_21, okb_0, okb_1, okb_b, nar_0, nar_1, nar_b, i_0, i_1, j_0, j_1, i_lit, j_lit, i_n, iI_add, iI_sub, iI_mul, iI_neg, jI_add, jI_sub, jI_mul, jI_neg, sh_1, an_1, xo_1, di_p, dj_p, i_64A, i_64, j_32, lq_ge, lq_lt, lq_le, lq_gt, lq_eq, i_lt, i_le, i_eq, j_eq, iI_A, jI_J, iI_b, iI_v, jI_v, ↓reduceIte, ite_true, ite_false, Int.reduceEq, Int.reduceLT, Int.reduceLE, Int.reduceAdd, Int.reduceSub, Int.reduceMul, Int.reduceNeg, not_true_eq_false, not_false_eq_true, s2, im, s31, s32, w, r0', w2, q]
      · obtain ⟨x6, x7⟩ := hrw i (by omega) (by omega)
        obtain ⟨X', w1, w2⟩ := mX M1 X bs hA x6 x7
        have cX : Ch [268] [] X X' := by
          rw [w2]
          split
          · exact Ch.refl
          · exact Ch.refl.wm (Or.inl (by decide))
        have aX : Ag M1 X' := by
          rw [w2]
          split
          · exact hA
          · exact hA.w rfl
        have e68 : A X 268 i = e := by rw [ee]; exact hlg i (by omega) (Int.le_refl _)
        have ei1 : (i : Int) + 1 - 1 = i := by omega
        have er : -1000 - 10 * ((i : Int) + 1) - y = -1000 - (10 * ((i : Int) + 1) + y) := by omega
        refine ⟨X', cX, aX, fun _ => ?_, fun h => by omega⟩
        refine s_Model_say_124 hF hg ?_
        simp (config := { maxSteps := 1000000 }) (disch := (first | omega | decide | assumption)) only [ltm_s, ok_n, rd_i, rd_j, fd_i, fd_j, wr_i, wr_j, fw_i, fw_j, ci_s, cj_s, cv_s, dv_n, dw_n, rt_1, rt_b, rt_20, rt_21, okb_0, okb_1, okb_b, nar_0, nar_1, nar_b, i_0, i_1, j_0, j_1, i_lit, j_lit, i_n, iI_add, iI_sub, iI_mul, iI_neg, jI_add, jI_sub, jI_mul, jI_neg, sh_1, an_1, xo_1, di_p, dj_p, i_64A, i_64, j_32, lq_ge, lq_lt, lq_le, lq_gt, lq_eq, i_lt, i_le, i_eq, j_eq, iI_A, jI_J, iI_b, iI_v, jI_v, ↓reduceIte, ite_true, ite_false, Int.reduceEq, Int.reduceLT, Int.reduceLE, Int.reduceAdd, Int.reduceSub, Int.reduceMul, Int.reduceNeg, not_true_eq_false, not_false_eq_true, q78, im2, ei1, e68, w1, q, er]
end Dr
