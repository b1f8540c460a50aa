/-! NAMES, SHUTTINGS, BANS, by both -/
noncomputable section
def shu (M : am_M) (w day kn : Int) : Prop := ∃ k : Int, 0 ≤ k ∧ k < A M 219 19 ∧ (A M 234 k = w ∧ A M 237 k ≤ kn ∧ A M 235 k ≤ day ∧ day < A M 236 k)
def ans (M : am_M) (w word kn : Int) : Prop := ∃ k : Int, 0 ≤ k ∧ k < A M 219 15 ∧ (A M 231 k = w ∧ J M 232 k = word ∧ A M 233 k ≤ kn)
def onb (M : am_M) (k day hour : Int) : Prop := A M 243 k ≤ day ∧ bt (A M 242 k) (day - day / 7 * 7) = 1 ∧ A M 240 k ≤ hour ∧ hour < A M 241 k
def bnd (M : am_M) (e f day hour : Int) : Prop := ∃ k : Int, 0 ≤ k ∧ k < A M 219 24 ∧ (A M 238 k = e ∧ A M 239 k = f ∧ onb M k day hour)
def drv (M : am_M) (e day hour kn : Int) : Prop := pas M e hour ∧ ¬ shu M (e / 2) day kn
end
/-- names -/
def I5 (M : am_M) : Prop := (0 ≤ A M 219 15 ∧ A M 219 15 ≤ 60) ∧ A M 18 4 = A M 219 15 ∧ ∀ k : Int, 0 ≤ k → k < A M 219 15 → A M 19 k = A M 231 k ∧ J M 21 k = J M 232 k ∧ A M 20 k = A M 233 k
/-- shuttings -/
def I6 (M : am_M) : Prop := (0 ≤ A M 219 19 ∧ A M 219 19 ≤ 40) ∧ A M 18 9 = A M 219 19 ∧ ∀ k : Int, 0 ≤ k → k < A M 219 19 → A M 22 k = A M 234 k ∧ A M 23 k = A M 235 k ∧ A M 24 k = A M 236 k ∧ A M 25 k = A M 237 k
/-- bans -/
def I7 (M : am_M) : Prop := (0 ≤ A M 219 24 ∧ A M 219 24 ≤ 40) ∧ A M 18 16 = A M 219 24 ∧ ∀ k : Int, 0 ≤ k → k < A M 219 24 → (0 ≤ A M 238 k ∧ A M 238 k < 2 * nW M) ∧ (0 ≤ A M 239 k ∧ A M 239 k < 2 * nW M) ∧ A M 26 k = A M 238 k ∧ A M 27 k = A M 239 k ∧ A M 28 k = A M 240 k ∧ A M 29 k = A M 241 k ∧ A M 30 k = A M 242 k ∧ A M 31 k = A M 243 k
/-- the day -/
def I8 (M : am_M) : Prop := (0 ≤ toD M ∧ toD M ≤ 299) ∧ A M 18 0 = toD M
section Le
variable {M0 M : am_M} {g : am_G} {F : am_FT}
theorem c_isShut_l (hF : F = am_F T0 g) (hg : GG g) (hA : Ag M0 M) (h6 : I6 M0) {w day kn : Int} (w0 : -2147483648 ≤ w) (w1 : w < 2147483648) (d0 : -2147483648 ≤ day) (d1 : day < 2147483648) (k0 : -2147483648 ≤ kn) (k1 : kn < 2147483648) : ∀ n k : Nat, (k : Int) + n = A M0 219 19 → F 35 3 [.ref 18, .int (iI w), .int (iI day), .int (iI kn), .int (iI k)] [] M = some (some (.int (iI (bI (∃ i : Int, (k : Int) ≤ i ∧ i < A M0 219 19 ∧ (A M0 234 i = w ∧ A M0 237 i ≤ kn ∧ A M0 235 i ≤ day ∧ day < A M0 236 i))))), M)
  | 0, k, h => by
    have hn := h6.1
    refine s_Ledger_isShut_3 hF hg ?_
    simp (disch := (first | omega | decide | assumption)) only [ltm_s, ok_n, rd_i, rd_j, fd_i, fd_j, wr_i, wr_j, fw_i, fw_j, ci_s, cj_s, cv_s, dv_n, dw_n, rt_1, rt_b, rt_20, rt_21, okb_0, okb_1, okb_b, nar_0, nar_1, nar_b, i_0, i_1, j_0, j_1, i_lit, j_lit, i_n, iI_add, iI_sub, iI_mul, iI_neg, jI_add, jI_sub, jI_mul, jI_neg, sh_1, an_1, xo_1, di_p, dj_p, i_64A, i_64, j_32, lq_ge, lq_lt, lq_le, lq_gt, lq_eq, i_lt, i_le, i_eq, j_eq, iI_A, jI_J, iI_b, iI_v, jI_v, ↓reduceIte, ite_true, ite_false, Int.reduceEq, Int.reduceLT, Int.reduceLE, Int.reduceAdd, Int.reduceSub, Int.reduceMul, Int.reduceNeg, not_true_eq_false, not_false_eq_true, agA hA, agJA hA, ag hA, v_nJ, v_nW, v_nD, v_toD, v_px, v_py, v_rg, v_kd, v_ft, v_on, v_bg, v_en, @nJ_ M0, @nW_ M0, @nD_ M0, @toD_ M0, @px_ M0, @py_ M0, @rg_ M0, @kd_ M0, @ft_ M0, @on_ M0, bt_, h6.2.1]
    rw [if_pos (by omega), bI_f (ex_0 (by omega))]
  | n + 1, k, h => by
    have hn := h6.1
    have ek : ((k + 1 : Nat) : Int) = (k : Int) + 1 := by omega
    have ih := c_isShut_l hF hg hA h6 w0 w1 d0 d1 k0 k1 n (k + 1) (by omega)
    rw [ek] at ih
    have hlt : ¬ A M0 219 19 ≤ (k : Int) := by omega
    obtain ⟨r1, r2, r3, r4⟩ := h6.2.2 k (by omega) (by omega)
    refine s_Ledger_isShut_3 hF hg ?_
    rw [bI_cg (ex_s (by omega))]
    simp (disch := (first | omega | decide | assumption)) only [ltm_s, ok_n, rd_i, rd_j, fd_i, fd_j, wr_i, wr_j, fw_i, fw_j, ci_s, cj_s, cv_s, dv_n, dw_n, rt_1, rt_b, rt_20, rt_21, okb_0, okb_1, okb_b, nar_0, nar_1, nar_b, i_0, i_1, j_0, j_1, i_lit, j_lit, i_n, iI_add, iI_sub, iI_mul, iI_neg, jI_add, jI_sub, jI_mul, jI_neg, sh_1, an_1, xo_1, di_p, dj_p, i_64A, i_64, j_32, lq_ge, lq_lt, lq_le, lq_gt, lq_eq, i_lt, i_le, i_eq, j_eq, iI_A, jI_J, iI_b, iI_v, jI_v, ↓reduceIte, ite_true, ite_false, Int.reduceEq, Int.reduceLT, Int.reduceLE, Int.reduceAdd, Int.reduceSub, Int.reduceMul, Int.reduceNeg, not_true_eq_false, not_false_eq_true, agA hA, agJA hA, ag hA, v_nJ, v_nW, v_nD, v_toD, v_px, v_py, v_rg, v_kd, v_ft, v_on, v_bg, v_en, @nJ_ M0, @nW_ M0, @nD_ M0, @toD_ M0, @px_ M0, @py_ M0, @rg_ M0, @kd_ M0, @ft_ M0, @on_ M0, bt_, h6.2.1, ih, hlt, r1, r2, r3, r4]
    (repeat' split) <;> first | (rw [bI_ot (by omega)]) | (rw [bI_of (by omega)])
theorem c_isShut (hF : F = am_F T0 g) (hg : GG g) (hA : Ag M0 M) (h6 : I6 M0) {w day kn : Int} (w0 : -2147483648 ≤ w) (w1 : w < 2147483648) (d0 : -2147483648 ≤ day) (d1 : day < 2147483648) (k0 : -2147483648 ≤ kn) (k1 : kn < 2147483648) : F 35 0 [.ref 18, .int (iI w), .int (iI day), .int (iI kn)] [] M = some (some (.int (iI (bI (shu M0 w day kn)))), M) := by
  refine s_Ledger_isShut hF hg ?_
  have hn := h6.1
  exact c_isShut_l hF hg hA h6 w0 w1 d0 d1 k0 k1 (A M0 219 19).toNat 0 (by omega)
theorem m_isShut_l (hF : F = am_F T0 g) (hg : GG g) (hA : Ag M0 M) (h6 : I6 M0) {w day kn : Int} (w0 : -2147483648 ≤ w) (w1 : w < 2147483648) (d0 : -2147483648 ≤ day) (d1 : day < 2147483648) (k0 : -2147483648 ≤ kn) (k1 : kn < 2147483648) : ∀ n k : Nat, (k : Int) + n = A M0 219 19 → F 57 3 [.ref 219, .int (iI w), .int (iI day), .int (iI kn), .int (iI k)] [] M = some (some (.int (iI (bI (∃ i : Int, (k : Int) ≤ i ∧ i < A M0 219 19 ∧ (A M0 234 i = w ∧ A M0 237 i ≤ kn ∧ A M0 235 i ≤ day ∧ day < A M0 236 i))))), M)
  | 0, k, h => by
    have hn := h6.1
    refine s_Model_isShut_3 hF hg ?_
    simp (disch := (first | omega | decide | assumption)) only [ltm_s, ok_n, rd_i, rd_j, fd_i, fd_j, wr_i, wr_j, fw_i, fw_j, ci_s, cj_s, cv_s, dv_n, dw_n, rt_1, rt_b, rt_20, rt_21, okb_0, okb_1, okb_b, nar_0, nar_1, nar_b, i_0, i_1, j_0, j_1, i_lit, j_lit, i_n, iI_add, iI_sub, iI_mul, iI_neg, jI_add, jI_sub, jI_mul, jI_neg, sh_1, an_1, xo_1, di_p, dj_p, i_64A, i_64, j_32, lq_ge, lq_lt, lq_le, lq_gt, lq_eq, i_lt, i_le, i_eq, j_eq, iI_A, jI_J, iI_b, iI_v, jI_v, ↓reduceIte, ite_true, ite_false, Int.reduceEq, Int.reduceLT, Int.reduceLE, Int.reduceAdd, Int.reduceSub, Int.reduceMul, Int.reduceNeg, not_true_eq_false, not_false_eq_true, agA hA, agJA hA, ag hA, v_nJ, v_nW, v_nD, v_toD, v_px, v_py, v_rg, v_kd, v_ft, v_on, v_bg, v_en, @nJ_ M0, @nW_ M0, @nD_ M0, @toD_ M0, @px_ M0, @py_ M0, @rg_ M0, @kd_ M0, @ft_ M0, @on_ M0, bt_]
    rw [if_pos (by omega), bI_f (ex_0 (by omega))]
  | n + 1, k, h => by
    have hn := h6.1
    have ek : ((k + 1 : Nat) : Int) = (k : Int) + 1 := by omega
    have ih := m_isShut_l hF hg hA h6 w0 w1 d0 d1 k0 k1 n (k + 1) (by omega)
    rw [ek] at ih
    have hlt : ¬ A M0 219 19 ≤ (k : Int) := by omega
    refine s_Model_isShut_3 hF hg ?_
    rw [bI_cg (ex_s (by omega))]
    simp (disch := (first | omega | decide | assumption)) only [ltm_s, ok_n, rd_i, rd_j, fd_i, fd_j, wr_i, wr_j, fw_i, fw_j, ci_s, cj_s, cv_s, dv_n, dw_n, rt_1, rt_b, rt_20, rt_21, okb_0, okb_1, okb_b, nar_0, nar_1, nar_b, i_0, i_1, j_0, j_1, i_lit, j_lit, i_n, iI_add, iI_sub, iI_mul, iI_neg, jI_add, jI_sub, jI_mul, jI_neg, sh_1, an_1, xo_1, di_p, dj_p, i_64A, i_64, j_32, lq_ge, lq_lt, lq_le, lq_gt, lq_eq, i_lt, i_le, i_eq, j_eq, iI_A, jI_J, iI_b, iI_v, jI_v, ↓reduceIte, ite_true, ite_false, Int.reduceEq, Int.reduceLT, Int.reduceLE, Int.reduceAdd, Int.reduceSub, Int.reduceMul, Int.reduceNeg, not_true_eq_false, not_false_eq_true, agA hA, agJA hA, ag hA, v_nJ, v_nW, v_nD, v_toD, v_px, v_py, v_rg, v_kd, v_ft, v_on, v_bg, v_en, @nJ_ M0, @nW_ M0, @nD_ M0, @toD_ M0, @px_ M0, @py_ M0, @rg_ M0, @kd_ M0, @ft_ M0, @on_ M0, bt_, ih, hlt]
    (repeat' split) <;> first | (rw [bI_ot (by omega)]) | (rw [bI_of (by omega)])
theorem m_isShut (hF : F = am_F T0 g) (hg : GG g) (hA : Ag M0 M) (h6 : I6 M0) {w day kn : Int} (w0 : -2147483648 ≤ w) (w1 : w < 2147483648) (d0 : -2147483648 ≤ day) (d1 : day < 2147483648) (k0 : -2147483648 ≤ kn) (k1 : kn < 2147483648) : F 57 0 [.ref 219, .int (iI w), .int (iI day), .int (iI kn)] [] M = some (some (.int (iI (bI (shu M0 w day kn)))), M) := by
  refine s_Model_isShut hF hg ?_
  have hn := h6.1
  exact m_isShut_l hF hg hA h6 w0 w1 d0 d1 k0 k1 (A M0 219 19).toNat 0 (by omega)
theorem c_answersTo_l (hF : F = am_F T0 g) (hg : GG g) (hA : Ag M0 M) (h5 : I5 M0) {w wd kn : Int} (w0 : -2147483648 ≤ w) (w1 : w < 2147483648) (d0 : -9223372036854775808 ≤ wd) (d1 : wd < 9223372036854775808) (k0 : -2147483648 ≤ kn) (k1 : kn < 2147483648) : ∀ n k : Nat, (k : Int) + n = A M0 219 15 → F 33 3 [.ref 18, .int (iI w), .long (jI wd), .int (iI kn), .int (iI k)] [] M = some (some (.int (iI (bI (∃ i : Int, (k : Int) ≤ i ∧ i < A M0 219 15 ∧ (A M0 231 i = w ∧ J M0 232 i = wd ∧ A M0 233 i ≤ kn))))), M)
  | 0, k, h => by
    have hn := h5.1
    refine s_Ledger_answersTo_3 hF hg ?_
    simp (disch := (first | omega | decide | assumption)) only [ltm_s, ok_n, rd_i, rd_j, fd_i, fd_j, wr_i, wr_j, fw_i, fw_j, ci_s, cj_s, cv_s, dv_n, dw_n, rt_1, rt_b, rt_20, rt_21, okb_0, okb_1, okb_b, nar_0, nar_1, nar_b, i_0, i_1, j_0, j_1, i_lit, j_lit, i_n, iI_add, iI_sub, iI_mul, iI_neg, jI_add, jI_sub, jI_mul, jI_neg, sh_1, an_1, xo_1, di_p, dj_p, i_64A, i_64, j_32, lq_ge, lq_lt, lq_le, lq_gt, lq_eq, i_lt, i_le, i_eq, j_eq, iI_A, jI_J, iI_b, iI_v, jI_v, ↓reduceIte, ite_true, ite_false, Int.reduceEq, Int.reduceLT, Int.reduceLE, Int.reduceAdd, Int.reduceSub, Int.reduceMul, Int.reduceNeg, not_true_eq_false, not_false_eq_true, agA hA, agJA hA, ag hA, v_nJ, v_nW, v_nD, v_toD, v_px, v_py, v_rg, v_kd, v_ft, v_on, v_bg, v_en, @nJ_ M0, @nW_ M0, @nD_ M0, @toD_ M0, @px_ M0, @py_ M0, @rg_ M0, @kd_ M0, @ft_ M0, @on_ M0, bt_, h5.2.1]
    rw [if_pos (by omega), bI_f (ex_0 (by omega))]
  | n + 1, k, h => by
    have hn := h5.1
    have ek : ((k + 1 : Nat) : Int) = (k : Int) + 1 := by omega
    have ih := c_answersTo_l hF hg hA h5 w0 w1 d0 d1 k0 k1 n (k + 1) (by omega)
    rw [ek] at ih
    have hlt : ¬ A M0 219 15 ≤ (k : Int) := by omega
    obtain ⟨r1, r2, r3⟩ := h5.2.2 k (by omega) (by omega)
    refine s_Ledger_answersTo_3 hF hg ?_
    rw [bI_cg (ex_s (by omega))]
    simp (disch := (first | omega | decide | assumption)) only [ltm_s, ok_n, rd_i, rd_j, fd_i, fd_j, wr_i, wr_j, fw_i, fw_j, ci_s, cj_s, cv_s, dv_n, dw_n, rt_1, rt_b, rt_20, rt_21, okb_0, okb_1, okb_b, nar_0, nar_1, nar_b, i_0, i_1, j_0, j_1, i_lit, j_lit, i_n, iI_add, iI_sub, iI_mul, iI_neg, jI_add, jI_sub, jI_mul, jI_neg, sh_1, an_1, xo_1, di_p, dj_p, i_64A, i_64, j_32, lq_ge, lq_lt, lq_le, lq_gt, lq_eq, i_lt, i_le, i_eq, j_eq, iI_A, jI_J, iI_b, iI_v, jI_v, ↓reduceIte, ite_true, ite_false, Int.reduceEq, Int.reduceLT, Int.reduceLE, Int.reduceAdd, Int.reduceSub, Int.reduceMul, Int.reduceNeg, not_true_eq_false, not_false_eq_true, agA hA, agJA hA, ag hA, v_nJ, v_nW, v_nD, v_toD, v_px, v_py, v_rg, v_kd, v_ft, v_on, v_bg, v_en, @nJ_ M0, @nW_ M0, @nD_ M0, @toD_ M0, @px_ M0, @py_ M0, @rg_ M0, @kd_ M0, @ft_ M0, @on_ M0, bt_, h5.2.1, ih, hlt, r1, r2, r3]
    (repeat' split) <;> first | (rw [bI_ot (by omega)]) | (rw [bI_of (by omega)])
theorem c_answersTo (hF : F = am_F T0 g) (hg : GG g) (hA : Ag M0 M) (h5 : I5 M0) {w wd kn : Int} (w0 : -2147483648 ≤ w) (w1 : w < 2147483648) (d0 : -9223372036854775808 ≤ wd) (d1 : wd < 9223372036854775808) (k0 : -2147483648 ≤ kn) (k1 : kn < 2147483648) : F 33 0 [.ref 18, .int (iI w), .long (jI wd), .int (iI kn)] [] M = some (some (.int (iI (bI (ans M0 w wd kn)))), M) := by
  refine s_Ledger_answersTo hF hg ?_
  have hn := h5.1
  exact c_answersTo_l hF hg hA h5 w0 w1 d0 d1 k0 k1 (A M0 219 15).toNat 0 (by omega)
theorem m_answersTo_l (hF : F = am_F T0 g) (hg : GG g) (hA : Ag M0 M) (h5 : I5 M0) {w wd kn : Int} (w0 : -2147483648 ≤ w) (w1 : w < 2147483648) (d0 : -9223372036854775808 ≤ wd) (d1 : wd < 9223372036854775808) (k0 : -2147483648 ≤ kn) (k1 : kn < 2147483648) : ∀ n k : Nat, (k : Int) + n = A M0 219 15 → F 40 3 [.ref 219, .int (iI w), .long (jI wd), .int (iI kn), .int (iI k)] [] M = some (some (.int (iI (bI (∃ i : Int, (k : Int) ≤ i ∧ i < A M0 219 15 ∧ (A M0 231 i = w ∧ J M0 232 i = wd ∧ A M0 233 i ≤ kn))))), M)
  | 0, k, h => by
    have hn := h5.1
    refine s_Model_answersTo_3 hF hg ?_
    simp (disch := (first | omega | decide | assumption)) only [ltm_s, ok_n, rd_i, rd_j, fd_i, fd_j, wr_i, wr_j, fw_i, fw_j, ci_s, cj_s, cv_s, dv_n, dw_n, rt_1, rt_b, rt_20, rt_21, okb_0, okb_1, okb_b, nar_0, nar_1, nar_b, i_0, i_1, j_0, j_1, i_lit, j_lit, i_n, iI_add, iI_sub, iI_mul, iI_neg, jI_add, jI_sub, jI_mul, jI_neg, sh_1, an_1, xo_1, di_p, dj_p, i_64A, i_64, j_32, lq_ge, lq_lt, lq_le, lq_gt, lq_eq, i_lt, i_le, i_eq, j_eq, iI_A, jI_J, iI_b, iI_v, jI_v, ↓reduceIte, ite_true, ite_false, Int.reduceEq, Int.reduceLT, Int.reduceLE, Int.reduceAdd, Int.reduceSub, Int.reduceMul, Int.reduceNeg, not_true_eq_false, not_false_eq_true, agA hA, agJA hA, ag hA, v_nJ, v_nW, v_nD, v_toD, v_px, v_py, v_rg, v_kd, v_ft, v_on, v_bg, v_en, @nJ_ M0, @nW_ M0, @nD_ M0, @toD_ M0, @px_ M0, @py_ M0, @rg_ M0, @kd_ M0, @ft_ M0, @on_ M0, bt_]
    rw [if_pos (by omega), bI_f (ex_0 (by omega))]
  | n + 1, k, h => by
    have hn := h5.1
    have ek : ((k + 1 : Nat) : Int) = (k : Int) + 1 := by omega
    have ih := m_answersTo_l hF hg hA h5 w0 w1 d0 d1 k0 k1 n (k + 1) (by omega)
    rw [ek] at ih
    have hlt : ¬ A M0 219 15 ≤ (k : Int) := by omega
    refine s_Model_answersTo_3 hF hg ?_
    rw [bI_cg (ex_s (by omega))]
    simp (disch := (first | omega | decide | assumption)) only [ltm_s, ok_n, rd_i, rd_j, fd_i, fd_j, wr_i, wr_j, fw_i, fw_j, ci_s, cj_s, cv_s, dv_n, dw_n, rt_1, rt_b, rt_20, rt_21, okb_0, okb_1, okb_b, nar_0, nar_1, nar_b, i_0, i_1, j_0, j_1, i_lit, j_lit, i_n, iI_add, iI_sub, iI_mul, iI_neg, jI_add, jI_sub, jI_mul, jI_neg, sh_1, an_1, xo_1, di_p, dj_p, i_64A, i_64, j_32, lq_ge, lq_lt, lq_le, lq_gt, lq_eq, i_lt, i_le, i_eq, j_eq, iI_A, jI_J, iI_b, iI_v, jI_v, ↓reduceIte, ite_true, ite_false, Int.reduceEq, Int.reduceLT, Int.reduceLE, Int.reduceAdd, Int.reduceSub, Int.reduceMul, Int.reduceNeg, not_true_eq_false, not_false_eq_true, agA hA, agJA hA, ag hA, v_nJ, v_nW, v_nD, v_toD, v_px, v_py, v_rg, v_kd, v_ft, v_on, v_bg, v_en, @nJ_ M0, @nW_ M0, @nD_ M0, @toD_ M0, @px_ M0, @py_ M0, @rg_ M0, @kd_ M0, @ft_ M0, @on_ M0, bt_, ih, hlt]
    (repeat' split) <;> first | (rw [bI_ot (by omega)]) | (rw [bI_of (by omega)])
theorem m_answersTo (hF : F = am_F T0 g) (hg : GG g) (hA : Ag M0 M) (h5 : I5 M0) {w wd kn : Int} (w0 : -2147483648 ≤ w) (w1 : w < 2147483648) (d0 : -9223372036854775808 ≤ wd) (d1 : wd < 9223372036854775808) (k0 : -2147483648 ≤ kn) (k1 : kn < 2147483648) : F 40 0 [.ref 219, .int (iI w), .long (jI wd), .int (iI kn)] [] M = some (some (.int (iI (bI (ans M0 w wd kn)))), M) := by
  refine s_Model_answersTo hF hg ?_
  have hn := h5.1
  exact m_answersTo_l hF hg hA h5 w0 w1 d0 d1 k0 k1 (A M0 219 15).toNat 0 (by omega)
theorem c_isBanOn (hF : F = am_F T0 g) (hg : GG g) (hA : Ag M0 M) (h7 : I7 M0) {k day hour : Int} (k0 : 0 ≤ k) (k1 : k < A M0 219 24) (d0 : 0 ≤ day) (d1 : day < 300) (u0 : 0 ≤ hour) (u1 : hour < 24) : F 34 0 [.ref 18, .int (iI k), .int (iI day), .int (iI hour)] [] M = some (some (.int (iI (bI (onb M0 k day hour)))), M) := by
  have hn := h7.1
  obtain ⟨-, -, -, -, r1, r2, r3, r4⟩ := h7.2.2 k k0 k1
  refine s_Ledger_isBanOn hF hg ?_
  simp (disch := (first | omega | decide | assumption)) only [ltm_s, ok_n, rd_i, rd_j, fd_i, fd_j, wr_i, wr_j, fw_i, fw_j, ci_s, cj_s, cv_s, dv_n, dw_n, rt_1, rt_b, rt_20, rt_21, okb_0, okb_1, okb_b, nar_0, nar_1, nar_b, i_0, i_1, j_0, j_1, i_lit, j_lit, i_n, iI_add, iI_sub, iI_mul, iI_neg, jI_add, jI_sub, jI_mul, jI_neg, sh_1, an_1, xo_1, di_p, dj_p, i_64A, i_64, j_32, lq_ge, lq_lt, lq_le, lq_gt, lq_eq, i_lt, i_le, i_eq, j_eq, iI_A, jI_J, iI_b, iI_v, jI_v, ↓reduceIte, ite_true, ite_false, Int.reduceEq, Int.reduceLT, Int.reduceLE, Int.reduceAdd, Int.reduceSub, Int.reduceMul, Int.reduceNeg, not_true_eq_false, not_false_eq_true, agA hA, agJA hA, ag hA, v_nJ, v_nW, v_nD, v_toD, v_px, v_py, v_rg, v_kd, v_ft, v_on, v_bg, v_en, @nJ_ M0, @nW_ M0, @nD_ M0, @toD_ M0, @px_ M0, @py_ M0, @rg_ M0, @kd_ M0, @ft_ M0, @on_ M0, bt_, r1, r2, r3, r4]
  unfold onb
  (repeat' split) <;> first | (rw [bI_t (by omega)]) | (rw [bI_f (by omega)])

theorem m_isBanned_l (hF : F = am_F T0 g) (hg : GG g) (hA : Ag M0 M) (h7 : I7 M0) {e f day hour : Int} (e0 : -2147483648 ≤ e) (e1 : e < 2147483648) (f0 : -2147483648 ≤ f) (f1 : f < 2147483648) (d0 : 0 ≤ day) (d1 : day < 300) (u0 : 0 ≤ hour) (u1 : hour < 24) : ∀ n k : Nat, (k : Int) + n = A M0 219 24 → F 54 3 [.ref 219, .int (iI e), .int (iI f), .int (iI day), .int (iI hour), .int (iI k)] [] M = some (some (.int (iI (bI (∃ i : Int, (k : Int) ≤ i ∧ i < A M0 219 24 ∧ (A M0 238 i = e ∧ A M0 239 i = f ∧ onb M0 i day hour))))), M) := by
  intro n
  induction n with
  | zero =>
    intro k h
    have hn := h7.1
    refine s_Model_isBanned_3 hF hg ?_
    simp (disch := (first | omega | decide | assumption)) only [ltm_s, ok_n, rd_i, rd_j, fd_i, fd_j, wr_i, wr_j, fw_i, fw_j, ci_s, cj_s, cv_s, dv_n, dw_n, rt_1, rt_b, rt_20, rt_21, okb_0, okb_1, okb_b, nar_0, nar_1, nar_b, i_0, i_1, j_0, j_1, i_lit, j_lit, i_n, iI_add, iI_sub, iI_mul, iI_neg, jI_add, jI_sub, jI_mul, jI_neg, sh_1, an_1, xo_1, di_p, dj_p, i_64A, i_64, j_32, lq_ge, lq_lt, lq_le, lq_gt, lq_eq, i_lt, i_le, i_eq, j_eq, iI_A, jI_J, iI_b, iI_v, jI_v, ↓reduceIte, ite_true, ite_false, Int.reduceEq, Int.reduceLT, Int.reduceLE, Int.reduceAdd, Int.reduceSub, Int.reduceMul, Int.reduceNeg, not_true_eq_false, not_false_eq_true, agA hA, agJA hA, ag hA, v_nJ, v_nW, v_nD, v_toD, v_px, v_py, v_rg, v_kd, v_ft, v_on, v_bg, v_en, @nJ_ M0, @nW_ M0, @nD_ M0, @toD_ M0, @px_ M0, @py_ M0, @rg_ M0, @kd_ M0, @ft_ M0, @on_ M0, bt_]
    rw [if_pos (by omega), bI_f (ex_0 (by omega))]
  | succ n ih0 =>
    intro k h
    have hn := h7.1
    have ek : ((k + 1 : Nat) : Int) = (k : Int) + 1 := by omega
    have ih := ih0 (k + 1) (by omega)
    rw [ek] at ih
    have hlt : ¬ A M0 219 24 ≤ (k : Int) := by omega
    refine s_Model_isBanned_3 hF hg ?_
    rw [bI_cg (ex_s (by omega))]
    simp (disch := (first | omega | decide | assumption)) only [ltm_s, ok_n, rd_i, rd_j, fd_i, fd_j, wr_i, wr_j, fw_i, fw_j, ci_s, cj_s, cv_s, dv_n, dw_n, rt_1, rt_b, rt_20, rt_21, okb_0, okb_1, okb_b, nar_0, nar_1, nar_b, i_0, i_1, j_0, j_1, i_lit, j_lit, i_n, iI_add, iI_sub, iI_mul, iI_neg, jI_add, jI_sub, jI_mul, jI_neg, sh_1, an_1, xo_1, di_p, dj_p, i_64A, i_64, j_32, lq_ge, lq_lt, lq_le, lq_gt, lq_eq, i_lt, i_le, i_eq, j_eq, iI_A, jI_J, iI_b, iI_v, jI_v, ↓reduceIte, ite_true, ite_false, Int.reduceEq, Int.reduceLT, Int.reduceLE, Int.reduceAdd, Int.reduceSub, Int.reduceMul, Int.reduceNeg, not_true_eq_false, not_false_eq_true, agA hA, agJA hA, ag hA, v_nJ, v_nW, v_nD, v_toD, v_px, v_py, v_rg, v_kd, v_ft, v_on, v_bg, v_en, @nJ_ M0, @nW_ M0, @nD_ M0, @toD_ M0, @px_ M0, @py_ M0, @rg_ M0, @kd_ M0, @ft_ M0, @on_ M0, bt_, ih, hlt]
    (repeat' split) <;> first | (rw [bI_ot (by unfold onb; omega)]) | (rw [bI_of (by unfold onb; omega)])
theorem m_isBanned (hF : F = am_F T0 g) (hg : GG g) (hA : Ag M0 M) (h7 : I7 M0) {e f day hour : Int} (e0 : -2147483648 ≤ e) (e1 : e < 2147483648) (f0 : -2147483648 ≤ f) (f1 : f < 2147483648) (d0 : 0 ≤ day) (d1 : day < 300) (u0 : 0 ≤ hour) (u1 : hour < 24) : F 54 0 [.ref 219, .int (iI e), .int (iI f), .int (iI day), .int (iI hour)] [] M = some (some (.int (iI (bI (bnd M0 e f day hour)))), M) := by
  refine s_Model_isBanned hF hg ?_
  have hn := h7.1
  exact m_isBanned_l hF hg hA h7 e0 e1 f0 f1 d0 d1 u0 u1 (A M0 219 24).toNat 0 (by omega)
theorem m_isDrivable (hF : F = am_F T0 g) (hg : GG g) (hA : Ag M0 M) (h2 : I2 M0) (h6 : I6 M0) {e day hour kn : Int} (e0 : 0 ≤ e) (e1 : e < 2 * nW M0) (d0 : 0 ≤ day) (d1 : day < 300) (u0 : 0 ≤ hour) (u1 : hour < 24) (k0 : 0 ≤ kn) (k1 : kn < 300) : F 184 0 [.ref 219, .int (iI e), .int (iI day), .int (iI hour), .int (iI kn)] [] M = some (some (.int (iI (bI (drv M0 e day hour kn)))), M) := by
  have hn := h2.1
  have ho := (h2.2.2.1 (e / 2) (by omega) (by omega)).2.2.1
  refine s_Model_isDrivable hF hg ?_
  unfold drv pas
  by_cases q1 : opn M0 (e / 2) hour <;> by_cases q2 : shu M0 (e / 2) day kn
  · simp (disch := (first | omega | decide | assumption)) only [ltm_s, ok_n, rd_i, rd_j, fd_i, fd_j, wr_i, wr_j, fw_i, fw_j, ci_s, cj_s, cv_s, dv_n, dw_n, rt_1, rt_b, rt_20, rt_21, okb_0, okb_1, okb_b, nar_0, nar_1, nar_b, i_0, i_1, j_0, j_1, i_lit, j_lit, i_n, iI_add, iI_sub, iI_mul, iI_neg, jI_add, jI_sub, jI_mul, jI_neg, sh_1, an_1, xo_1, di_p, dj_p, i_64A, i_64, j_32, lq_ge, lq_lt, lq_le, lq_gt, lq_eq, i_lt, i_le, i_eq, j_eq, iI_A, jI_J, iI_b, iI_v, jI_v, ↓reduceIte, ite_true, ite_false, Int.reduceEq, Int.reduceLT, Int.reduceLE, Int.reduceAdd, Int.reduceSub, Int.reduceMul, Int.reduceNeg, not_true_eq_false, not_false_eq_true, agA hA, agJA hA, ag hA, v_nJ, v_nW, v_nD, v_toD, v_px, v_py, v_rg, v_kd, v_ft, v_on, v_bg, v_en, @nJ_ M0, @nW_ M0, @nD_ M0, @toD_ M0, @px_ M0, @py_ M0, @rg_ M0, @kd_ M0, @ft_ M0, @on_ M0, bt_, m_isOpen hF hg hA h2, m_isShut hF hg hA h6, bI_t q1, bI_t q2]
    (repeat' split) <;> (rw [bI_f (fun x => x.2 q2)])
  · simp (disch := (first | omega | decide | assumption)) only [ltm_s, ok_n, rd_i, rd_j, fd_i, fd_j, wr_i, wr_j, fw_i, fw_j, ci_s, cj_s, cv_s, dv_n, dw_n, rt_1, rt_b, rt_20, rt_21, okb_0, okb_1, okb_b, nar_0, nar_1, nar_b, i_0, i_1, j_0, j_1, i_lit, j_lit, i_n, iI_add, iI_sub, iI_mul, iI_neg, jI_add, jI_sub, jI_mul, jI_neg, sh_1, an_1, xo_1, di_p, dj_p, i_64A, i_64, j_32, lq_ge, lq_lt, lq_le, lq_gt, lq_eq, i_lt, i_le, i_eq, j_eq, iI_A, jI_J, iI_b, iI_v, jI_v, ↓reduceIte, ite_true, ite_false, Int.reduceEq, Int.reduceLT, Int.reduceLE, Int.reduceAdd, Int.reduceSub, Int.reduceMul, Int.reduceNeg, not_true_eq_false, not_false_eq_true, agA hA, agJA hA, ag hA, v_nJ, v_nW, v_nD, v_toD, v_px, v_py, v_rg, v_kd, v_ft, v_on, v_bg, v_en, @nJ_ M0, @nW_ M0, @nD_ M0, @toD_ M0, @px_ M0, @py_ M0, @rg_ M0, @kd_ M0, @ft_ M0, @on_ M0, bt_, m_isOpen hF hg hA h2, m_isShut hF hg hA h6, bI_t q1, bI_f q2]
    (repeat' split) <;> first | (rw [bI_t ⟨⟨by omega, q1⟩, q2⟩]) | (rw [bI_f (fun x => x.1.1 (by omega))])
  · simp (disch := (first | omega | decide | assumption)) only [ltm_s, ok_n, rd_i, rd_j, fd_i, fd_j, wr_i, wr_j, fw_i, fw_j, ci_s, cj_s, cv_s, dv_n, dw_n, rt_1, rt_b, rt_20, rt_21, okb_0, okb_1, okb_b, nar_0, nar_1, nar_b, i_0, i_1, j_0, j_1, i_lit, j_lit, i_n, iI_add, iI_sub, iI_mul, iI_neg, jI_add, jI_sub, jI_mul, jI_neg, sh_1, an_1, xo_1, di_p, dj_p, i_64A, i_64, j_32, lq_ge, lq_lt, lq_le, lq_gt, lq_eq, i_lt, i_le, i_eq, j_eq, iI_A, jI_J, iI_b, iI_v, jI_v, ↓reduceIte, ite_true, ite_false, Int.reduceEq, Int.reduceLT, Int.reduceLE, Int.reduceAdd, Int.reduceSub, Int.reduceMul, Int.reduceNeg, not_true_eq_false, not_false_eq_true, agA hA, agJA hA, ag hA, v_nJ, v_nW, v_nD, v_toD, v_px, v_py, v_rg, v_kd, v_ft, v_on, v_bg, v_en, @nJ_ M0, @nW_ M0, @nD_ M0, @toD_ M0, @px_ M0, @py_ M0, @rg_ M0, @kd_ M0, @ft_ M0, @on_ M0, bt_, m_isOpen hF hg hA h2, m_isShut hF hg hA h6, bI_f q1, bI_t q2]
    (repeat' split) <;> (rw [bI_f (fun x => x.2 q2)])
  · simp (disch := (first | omega | decide | assumption)) only [ltm_s, ok_n, rd_i, rd_j, fd_i, fd_j, wr_i, wr_j, fw_i, fw_j, ci_s, cj_s, cv_s, dv_n, dw_n, rt_1, rt_b, rt_20, rt_21, okb_0, okb_1, okb_b, nar_0, nar_1, nar_b, i_0, i_1, j_0, j_1, i_lit, j_lit, i_n, iI_add, iI_sub, iI_mul, iI_neg, jI_add, jI_sub, jI_mul, jI_neg, sh_1, an_1, xo_1, di_p, dj_p, i_64A, i_64, j_32, lq_ge, lq_lt, lq_le, lq_gt, lq_eq, i_lt, i_le, i_eq, j_eq, iI_A, jI_J, iI_b, iI_v, jI_v, ↓reduceIte, ite_true, ite_false, Int.reduceEq, Int.reduceLT, Int.reduceLE, Int.reduceAdd, Int.reduceSub, Int.reduceMul, Int.reduceNeg, not_true_eq_false, not_false_eq_true, agA hA, agJA hA, ag hA, v_nJ, v_nW, v_nD, v_toD, v_px, v_py, v_rg, v_kd, v_ft, v_on, v_bg, v_en, @nJ_ M0, @nW_ M0, @nD_ M0, @toD_ M0, @px_ M0, @py_ M0, @rg_ M0, @kd_ M0, @ft_ M0, @on_ M0, bt_, m_isOpen hF hg hA h2, m_isShut hF hg hA h6, bI_f q1, bI_f q2]
    (repeat' split) <;> (rw [bI_f (fun x => q1 x.1.2)])
/-- what the model has been set to: -1 and the day, or a pupil -/
noncomputable def mgo (M0 : am_M) (md : Int × Int × Int × Int) (f : Int) : Prop := if md.1 = -1 then drv M0 f md.2.1 md.2.2.1 md.2.2.2 else pas M0 f md.2.2.1
def mset (md : Int × Int × Int × Int) (M : am_M) : Prop := A M 219 56 = md.1 ∧ (md.1 = -1 → A M 219 57 = md.2.1 ∧ A M 219 59 = md.2.2.2) ∧ A M 219 58 = md.2.2.1
def mok (M0 : am_M) (md : Int × Int × Int × Int) : Prop := (-1 ≤ md.1 ∧ md.1 < A M0 219 41 ∧ md.1 < 4) ∧ (md.1 = -1 → (0 ≤ md.2.1 ∧ md.2.1 < 300) ∧ (0 ≤ md.2.2.2 ∧ md.2.2.2 < 300)) ∧ (0 ≤ md.2.2.1 ∧ md.2.2.1 < 24)
theorem m_mayGo (hF : F = am_F T0 g) (hg : GG g) (hA : Ag M0 M) (h2 : I2 M0) (h6 : I6 M0) {md : Int × Int × Int × Int} (hs : mset md M) (hm : mok M0 md) {f : Int} (f0 : 0 ≤ f) (f1 : f < 2 * nW M0) : F 225 0 [.ref 219, .int (iI f)] [] M = some (some (.int (iI (bI (mgo M0 md f)))), M) := by
  have hn := h2.1
  have ho := (h2.2.2.1 (f / 2) (by omega) (by omega)).2.2.1
  obtain ⟨s1, s2, s3⟩ := hs
  obtain ⟨m1, m2, m3⟩ := hm
  refine s_Model_mayGo hF hg ?_
  unfold mgo
  by_cases q : md.1 = -1
  · obtain ⟨s2, s4⟩ := s2 q
    obtain ⟨m2, m4⟩ := m2 q
    simp (disch := (first | omega | decide | assumption)) only [ltm_s, ok_n, rd_i, rd_j, fd_i, fd_j, wr_i, wr_j, fw_i, fw_j, ci_s, cj_s, cv_s, dv_n, dw_n, rt_1, rt_b, rt_20, rt_21, okb_0, okb_1, okb_b, nar_0, nar_1, nar_b, i_0, i_1, j_0, j_1, i_lit, j_lit, i_n, iI_add, iI_sub, iI_mul, iI_neg, jI_add, jI_sub, jI_mul, jI_neg, sh_1, an_1, xo_1, di_p, dj_p, i_64A, i_64, j_32, lq_ge, lq_lt, lq_le, lq_gt, lq_eq, i_lt, i_le, i_eq, j_eq, iI_A, jI_J, iI_b, iI_v, jI_v, ↓reduceIte, ite_true, ite_false, Int.reduceEq, Int.reduceLT, Int.reduceLE, Int.reduceAdd, Int.reduceSub, Int.reduceMul, Int.reduceNeg, not_true_eq_false, not_false_eq_true, agA hA, agJA hA, ag hA, v_nJ, v_nW, v_nD, v_toD, v_px, v_py, v_rg, v_kd, v_ft, v_on, v_bg, v_en, @nJ_ M0, @nW_ M0, @nD_ M0, @toD_ M0, @px_ M0, @py_ M0, @rg_ M0, @kd_ M0, @ft_ M0, @on_ M0, bt_, s1, s2, s3, s4, q, m_isDrivable hF hg hA h2 h6]
  · unfold pas
    by_cases q1 : opn M0 (f / 2) md.2.2.1
    · simp (disch := (first | omega | decide | assumption)) only [ltm_s, ok_n, rd_i, rd_j, fd_i, fd_j, wr_i, wr_j, fw_i, fw_j, ci_s, cj_s, cv_s, dv_n, dw_n, rt_1, rt_b, rt_20, rt_21, okb_0, okb_1, okb_b, nar_0, nar_1, nar_b, i_0, i_1, j_0, j_1, i_lit, j_lit, i_n, iI_add, iI_sub, iI_mul, iI_neg, jI_add, jI_sub, jI_mul, jI_neg, sh_1, an_1, xo_1, di_p, dj_p, i_64A, i_64, j_32, lq_ge, lq_lt, lq_le, lq_gt, lq_eq, i_lt, i_le, i_eq, j_eq, iI_A, jI_J, iI_b, iI_v, jI_v, ↓reduceIte, ite_true, ite_false, Int.reduceEq, Int.reduceLT, Int.reduceLE, Int.reduceAdd, Int.reduceSub, Int.reduceMul, Int.reduceNeg, not_true_eq_false, not_false_eq_true, agA hA, agJA hA, ag hA, v_nJ, v_nW, v_nD, v_toD, v_px, v_py, v_rg, v_kd, v_ft, v_on, v_bg, v_en, @nJ_ M0, @nW_ M0, @nD_ M0, @toD_ M0, @px_ M0, @py_ M0, @rg_ M0, @kd_ M0, @ft_ M0, @on_ M0, bt_, s1, s3, q, m_isOpen hF hg hA h2, bI_t q1]
      (repeat' split) <;> first | (rw [bI_t ⟨by omega, q1⟩]) | (rw [bI_f (fun x => x.1 (by omega))])
    · simp (disch := (first | omega | decide | assumption)) only [ltm_s, ok_n, rd_i, rd_j, fd_i, fd_j, wr_i, wr_j, fw_i, fw_j, ci_s, cj_s, cv_s, dv_n, dw_n, rt_1, rt_b, rt_20, rt_21, okb_0, okb_1, okb_b, nar_0, nar_1, nar_b, i_0, i_1, j_0, j_1, i_lit, j_lit, i_n, iI_add, iI_sub, iI_mul, iI_neg, jI_add, jI_sub, jI_mul, jI_neg, sh_1, an_1, xo_1, di_p, dj_p, i_64A, i_64, j_32, lq_ge, lq_lt, lq_le, lq_gt, lq_eq, i_lt, i_le, i_eq, j_eq, iI_A, jI_J, iI_b, iI_v, jI_v, ↓reduceIte, ite_true, ite_false, Int.reduceEq, Int.reduceLT, Int.reduceLE, Int.reduceAdd, Int.reduceSub, Int.reduceMul, Int.reduceNeg, not_true_eq_false, not_false_eq_true, agA hA, agJA hA, ag hA, v_nJ, v_nW, v_nD, v_toD, v_px, v_py, v_rg, v_kd, v_ft, v_on, v_bg, v_en, @nJ_ M0, @nW_ M0, @nD_ M0, @toD_ M0, @px_ M0, @py_ M0, @rg_ M0, @kd_ M0, @ft_ M0, @on_ M0, bt_, s1, s3, q, m_isOpen hF hg hA h2, bI_f q1]
      (repeat' split) <;> (rw [bI_f (fun x => q1 x.2)])
end Le
