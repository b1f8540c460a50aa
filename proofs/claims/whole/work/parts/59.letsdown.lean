/-! THE MODEL LETS DOWN -/
/-- what has been driven -/
def I9 (M : am_M) : Prop := (∀ p : Int, 0 ≤ p → p < 4 → 0 ≤ A M 250 p ∧ A M 250 p ≤ 30) ∧ ∀ t : Int, 0 ≤ t → t < 25600 → (0 ≤ A M 251 t ∧ A M 251 t ≤ 6) ∧ 0 ≤ A M 252 t ∧ A M 252 t ≤ 299
noncomputable section
/-- how far from the set string a leg's end lies -/
def ofv (M0 M : am_M) (e : Int) : Int :=
  let c := (A M 219 69 - A M 219 67) * (py M0 (en M0 e) - A M 219 68) - (A M 219 70 - A M 219 68) * (px M0 (en M0 e) - A M 219 67)
  if 0 ≤ c then c else -c
end
def cset (M : am_M) : Prop := (0 ≤ A M 219 67 ∧ A M 219 67 ≤ 99) ∧ (0 ≤ A M 219 68 ∧ A M 219 68 ≤ 99) ∧ (0 ≤ A M 219 69 ∧ A M 219 69 ≤ 99) ∧ 0 ≤ A M 219 70 ∧ A M 219 70 ≤ 99
section Ld
variable {M0 M M' : am_M} {g : am_G} {F : am_FT}
theorem sl_i {x i : Int} : iI x <<< (iI i &&& iI 31) = iI (sl x i) := (Int32.ofInt_toInt _).symm
theorem m_isHeld (hF : F = am_F T0 g) (hg : GG g) (hA : Ag M0 M) (h9 : I9 M0) {p e f day : Int} (p0 : 0 ≤ p) (p1 : p < 4) (e0 : 0 ≤ e) (e1 : e < 80) (f0 : 0 ≤ f) (f1 : f < 80) (d0 : 0 ≤ day) (d1 : day < 300) : F 55 0 [.ref 219, .int (iI p), .int (iI e), .int (iI f), .int (iI day)] [] M = some (some (.int (iI (bI (hld M0 p e f day)))), M) := by
  have ht := h9.2 (6400 * p + 80 * e + f) (by omega) (by omega)
  have hk := h9.1 p p0 p1
  refine s_Model_isHeld hF hg ?_
  unfold hld
  by_cases q1 : 0 < A M0 251 (6400 * p + 80 * e + f)
  · have hs := sl_v hk.1 hk.2 (i := A M0 251 (6400 * p + 80 * e + f) - 1) (by omega) (by omega)
    have q1' : ¬ A M0 251 (6400 * p + 80 * e + f) ≤ 0 := by omega
    by_cases q2 : day < A M0 252 (6400 * p + 80 * e + f)
    · rw [bI_f (fun x => by omega)]
      simp (disch := (first | omega | decide | assumption)) only [ltm_s, ok_n, rd_i, rd_j, fd_i, fd_j, wr_i, wr_j, fw_i, fw_j, ci_s, cj_s, cv_s, dv_n, dw_n, rt_1, rt_b, rt_20, rt_21, okb_0, okb_1, okb_b, nar_0, nar_1, nar_b, i_0, i_1, j_0, j_1, i_lit, j_lit, i_n, iI_add, iI_sub, iI_mul, iI_neg, jI_add, jI_sub, jI_mul, jI_neg, sh_1, an_1, xo_1, di_p, dj_p, i_64A, i_64, j_32, lq_ge, lq_lt, lq_le, lq_gt, lq_eq, i_lt, i_le, i_eq, j_eq, iI_A, jI_J, iI_b, iI_v, jI_v, ↓reduceIte, ite_true, ite_false, Int.reduceEq, Int.reduceLT, Int.reduceLE, Int.reduceAdd, Int.reduceSub, Int.reduceMul, Int.reduceNeg, not_true_eq_false, not_false_eq_true, agA hA, agJA hA, ag hA, v_nJ, v_nW, v_nD, v_toD, v_px, v_py, v_rg, v_kd, v_ft, v_on, v_bg, v_en, @nJ_ M0, @nW_ M0, @nD_ M0, @toD_ M0, @px_ M0, @py_ M0, @rg_ M0, @kd_ M0, @ft_ M0, @on_ M0, bt_, q1', q2, sl_i]
    · by_cases q3 : A M0 252 (6400 * p + 80 * e + f) + sl (A M0 250 p) (A M0 251 (6400 * p + 80 * e + f) - 1) < day
      · rw [bI_f (fun x => by omega)]
        simp (disch := (first | omega | decide | assumption)) only [ltm_s, ok_n, rd_i, rd_j, fd_i, fd_j, wr_i, wr_j, fw_i, fw_j, ci_s, cj_s, cv_s, dv_n, dw_n, rt_1, rt_b, rt_20, rt_21, okb_0, okb_1, okb_b, nar_0, nar_1, nar_b, i_0, i_1, j_0, j_1, i_lit, j_lit, i_n, iI_add, iI_sub, iI_mul, iI_neg, jI_add, jI_sub, jI_mul, jI_neg, sh_1, an_1, xo_1, di_p, dj_p, i_64A, i_64, j_32, lq_ge, lq_lt, lq_le, lq_gt, lq_eq, i_lt, i_le, i_eq, j_eq, iI_A, jI_J, iI_b, iI_v, jI_v, ↓reduceIte, ite_true, ite_false, Int.reduceEq, Int.reduceLT, Int.reduceLE, Int.reduceAdd, Int.reduceSub, Int.reduceMul, Int.reduceNeg, not_true_eq_false, not_false_eq_true, agA hA, agJA hA, ag hA, v_nJ, v_nW, v_nD, v_toD, v_px, v_py, v_rg, v_kd, v_ft, v_on, v_bg, v_en, @nJ_ M0, @nW_ M0, @nD_ M0, @toD_ M0, @px_ M0, @py_ M0, @rg_ M0, @kd_ M0, @ft_ M0, @on_ M0, bt_, q1', q2, sl_i, q3]
      · rw [bI_t ⟨q1, by omega, by omega⟩]
        simp (disch := (first | omega | decide | assumption)) only [ltm_s, ok_n, rd_i, rd_j, fd_i, fd_j, wr_i, wr_j, fw_i, fw_j, ci_s, cj_s, cv_s, dv_n, dw_n, rt_1, rt_b, rt_20, rt_21, okb_0, okb_1, okb_b, nar_0, nar_1, nar_b, i_0, i_1, j_0, j_1, i_lit, j_lit, i_n, iI_add, iI_sub, iI_mul, iI_neg, jI_add, jI_sub, jI_mul, jI_neg, sh_1, an_1, xo_1, di_p, dj_p, i_64A, i_64, j_32, lq_ge, lq_lt, lq_le, lq_gt, lq_eq, i_lt, i_le, i_eq, j_eq, iI_A, jI_J, iI_b, iI_v, jI_v, ↓reduceIte, ite_true, ite_false, Int.reduceEq, Int.reduceLT, Int.reduceLE, Int.reduceAdd, Int.reduceSub, Int.reduceMul, Int.reduceNeg, not_true_eq_false, not_false_eq_true, agA hA, agJA hA, ag hA, v_nJ, v_nW, v_nD, v_toD, v_px, v_py, v_rg, v_kd, v_ft, v_on, v_bg, v_en, @nJ_ M0, @nW_ M0, @nD_ M0, @toD_ M0, @px_ M0, @py_ M0, @rg_ M0, @kd_ M0, @ft_ M0, @on_ M0, bt_, q1', q2, sl_i, q3]
  · rw [bI_f (fun x => q1 x.1)]
    have q1' : A M0 251 (6400 * p + 80 * e + f) ≤ 0 := by omega
    simp (disch := (first | omega | decide | assumption)) only [ltm_s, ok_n, rd_i, rd_j, fd_i, fd_j, wr_i, wr_j, fw_i, fw_j, ci_s, cj_s, cv_s, dv_n, dw_n, rt_1, rt_b, rt_20, rt_21, okb_0, okb_1, okb_b, nar_0, nar_1, nar_b, i_0, i_1, j_0, j_1, i_lit, j_lit, i_n, iI_add, iI_sub, iI_mul, iI_neg, jI_add, jI_sub, jI_mul, jI_neg, sh_1, an_1, xo_1, di_p, dj_p, i_64A, i_64, j_32, lq_ge, lq_lt, lq_le, lq_gt, lq_eq, i_lt, i_le, i_eq, j_eq, iI_A, jI_J, iI_b, iI_v, jI_v, ↓reduceIte, ite_true, ite_false, Int.reduceEq, Int.reduceLT, Int.reduceLE, Int.reduceAdd, Int.reduceSub, Int.reduceMul, Int.reduceNeg, not_true_eq_false, not_false_eq_true, agA hA, agJA hA, ag hA, v_nJ, v_nW, v_nD, v_toD, v_px, v_py, v_rg, v_kd, v_ft, v_on, v_bg, v_en, @nJ_ M0, @nW_ M0, @nD_ M0, @toD_ M0, @px_ M0, @py_ M0, @rg_ M0, @kd_ M0, @ft_ M0, @on_ M0, bt_, q1']
theorem m_mayTurn (hF : F = am_F T0 g) (hg : GG g) (hA : Ag M0 M) (h1 : I1 M0) (h2 : I2 M0) (h6 : I6 M0) (h7 : I7 M0) (h8 : I8 M0) (h9 : I9 M0) {md : Int × Int × Int × Int} (hs : mset md M) (hm : mok M0 md) {e f : Int} (e0 : 0 ≤ e) (e1 : e < 2 * nW M0) (f0 : 0 ≤ f) (f1 : f < 2 * nW M0) : F 234 0 [.ref 219, .int (iI e), .int (iI f)] [] M = some (some (.int (iI (bI (may M0 md e f)))), M) := by
  have hn := h2.1
  have h81 := h8.1
  have mg := m_mayGo hF hg hA h2 h6 hs hm f0 f1
  have mf := m_follows hF hg hA h1 h2 e0 e1 f0 f1
  obtain ⟨s1, s2, s3⟩ := hs
  obtain ⟨m1, m2, m3⟩ := hm
  refine s_Model_mayTurn hF hg ?_
  by_cases q1 : fol M0 e f
  · by_cases q2 : mgo M0 md f
    · by_cases q : md.1 = -1
      · obtain ⟨s2, s4⟩ := s2 q
        obtain ⟨m2, m4⟩ := m2 q
        have ek : may M0 md e f ↔ ¬ bnd M0 e f md.2.1 md.2.2.1 := by
          unfold may mkd
          rw [if_pos q]
          exact ⟨fun x y => x.2.2.mp y q, fun x => ⟨q1, q2, fun y => absurd y x, fun y => absurd q y⟩⟩
        by_cases q3 : bnd M0 e f md.2.1 md.2.2.1
        · rw [bI_f (fun x => ek.mp x q3)]
          simp (disch := (first | omega | decide | assumption)) only [ltm_s, ok_n, rd_i, rd_j, fd_i, fd_j, wr_i, wr_j, fw_i, fw_j, ci_s, cj_s, cv_s, dv_n, dw_n, rt_1, rt_b, rt_20, rt_21, okb_0, okb_1, okb_b, nar_0, nar_1, nar_b, i_0, i_1, j_0, j_1, i_lit, j_lit, i_n, iI_add, iI_sub, iI_mul, iI_neg, jI_add, jI_sub, jI_mul, jI_neg, sh_1, an_1, xo_1, di_p, dj_p, i_64A, i_64, j_32, lq_ge, lq_lt, lq_le, lq_gt, lq_eq, i_lt, i_le, i_eq, j_eq, iI_A, jI_J, iI_b, iI_v, jI_v, ↓reduceIte, ite_true, ite_false, Int.reduceEq, Int.reduceLT, Int.reduceLE, Int.reduceAdd, Int.reduceSub, Int.reduceMul, Int.reduceNeg, not_true_eq_false, not_false_eq_true, agA hA, agJA hA, ag hA, v_nJ, v_nW, v_nD, v_toD, v_px, v_py, v_rg, v_kd, v_ft, v_on, v_bg, v_en, @nJ_ M0, @nW_ M0, @nD_ M0, @toD_ M0, @px_ M0, @py_ M0, @rg_ M0, @kd_ M0, @ft_ M0, @on_ M0, bt_, mf, bI_t q1, mg, bI_t q2, s1, q, s2, s3, m_isBanned hF hg hA h7, bI_t q3]
        · rw [bI_t (ek.mpr q3)]
          simp (disch := (first | omega | decide | assumption)) only [ltm_s, ok_n, rd_i, rd_j, fd_i, fd_j, wr_i, wr_j, fw_i, fw_j, ci_s, cj_s, cv_s, dv_n, dw_n, rt_1, rt_b, rt_20, rt_21, okb_0, okb_1, okb_b, nar_0, nar_1, nar_b, i_0, i_1, j_0, j_1, i_lit, j_lit, i_n, iI_add, iI_sub, iI_mul, iI_neg, jI_add, jI_sub, jI_mul, jI_neg, sh_1, an_1, xo_1, di_p, dj_p, i_64A, i_64, j_32, lq_ge, lq_lt, lq_le, lq_gt, lq_eq, i_lt, i_le, i_eq, j_eq, iI_A, jI_J, iI_b, iI_v, jI_v, ↓reduceIte, ite_true, ite_false, Int.reduceEq, Int.reduceLT, Int.reduceLE, Int.reduceAdd, Int.reduceSub, Int.reduceMul, Int.reduceNeg, not_true_eq_false, not_false_eq_true, agA hA, agJA hA, ag hA, v_nJ, v_nW, v_nD, v_toD, v_px, v_py, v_rg, v_kd, v_ft, v_on, v_bg, v_en, @nJ_ M0, @nW_ M0, @nD_ M0, @toD_ M0, @px_ M0, @py_ M0, @rg_ M0, @kd_ M0, @ft_ M0, @on_ M0, bt_, mf, bI_t q1, mg, bI_t q2, s1, q, s2, s3, m_isBanned hF hg hA h7, bI_f q3]
      · have ek : may M0 md e f ↔ hld M0 md.1 e f (toD M0) := by
          unfold may mkd
          rw [if_neg q]
          exact ⟨fun x => x.2.2.mpr q, fun x => ⟨q1, q2, fun _ => q, fun _ => x⟩⟩
        rw [bI_cg ek]
        simp (disch := (first | omega | decide | assumption)) only [ltm_s, ok_n, rd_i, rd_j, fd_i, fd_j, wr_i, wr_j, fw_i, fw_j, ci_s, cj_s, cv_s, dv_n, dw_n, rt_1, rt_b, rt_20, rt_21, okb_0, okb_1, okb_b, nar_0, nar_1, nar_b, i_0, i_1, j_0, j_1, i_lit, j_lit, i_n, iI_add, iI_sub, iI_mul, iI_neg, jI_add, jI_sub, jI_mul, jI_neg, sh_1, an_1, xo_1, di_p, dj_p, i_64A, i_64, j_32, lq_ge, lq_lt, lq_le, lq_gt, lq_eq, i_lt, i_le, i_eq, j_eq, iI_A, jI_J, iI_b, iI_v, jI_v, ↓reduceIte, ite_true, ite_false, Int.reduceEq, Int.reduceLT, Int.reduceLE, Int.reduceAdd, Int.reduceSub, Int.reduceMul, Int.reduceNeg, not_true_eq_false, not_false_eq_true, agA hA, agJA hA, ag hA, v_nJ, v_nW, v_nD, v_toD, v_px, v_py, v_rg, v_kd, v_ft, v_on, v_bg, v_en, @nJ_ M0, @nW_ M0, @nD_ M0, @toD_ M0, @px_ M0, @py_ M0, @rg_ M0, @kd_ M0, @ft_ M0, @on_ M0, bt_, mf, bI_t q1, mg, bI_t q2, s1, q, m_isHeld hF hg hA h9]
    · rw [bI_f (fun x => q2 x.2.1)]
      simp (disch := (first | omega | decide | assumption)) only [ltm_s, ok_n, rd_i, rd_j, fd_i, fd_j, wr_i, wr_j, fw_i, fw_j, ci_s, cj_s, cv_s, dv_n, dw_n, rt_1, rt_b, rt_20, rt_21, okb_0, okb_1, okb_b, nar_0, nar_1, nar_b, i_0, i_1, j_0, j_1, i_lit, j_lit, i_n, iI_add, iI_sub, iI_mul, iI_neg, jI_add, jI_sub, jI_mul, jI_neg, sh_1, an_1, xo_1, di_p, dj_p, i_64A, i_64, j_32, lq_ge, lq_lt, lq_le, lq_gt, lq_eq, i_lt, i_le, i_eq, j_eq, iI_A, jI_J, iI_b, iI_v, jI_v, ↓reduceIte, ite_true, ite_false, Int.reduceEq, Int.reduceLT, Int.reduceLE, Int.reduceAdd, Int.reduceSub, Int.reduceMul, Int.reduceNeg, not_true_eq_false, not_false_eq_true, agA hA, agJA hA, ag hA, v_nJ, v_nW, v_nD, v_toD, v_px, v_py, v_rg, v_kd, v_ft, v_on, v_bg, v_en, @nJ_ M0, @nW_ M0, @nD_ M0, @toD_ M0, @px_ M0, @py_ M0, @rg_ M0, @kd_ M0, @ft_ M0, @on_ M0, bt_, mf, bI_t q1, mg, bI_f q2]
  · rw [bI_f (fun x => q1 x.1)]
    simp (disch := (first | omega | decide | assumption)) only [ltm_s, ok_n, rd_i, rd_j, fd_i, fd_j, wr_i, wr_j, fw_i, fw_j, ci_s, cj_s, cv_s, dv_n, dw_n, rt_1, rt_b, rt_20, rt_21, okb_0, okb_1, okb_b, nar_0, nar_1, nar_b, i_0, i_1, j_0, j_1, i_lit, j_lit, i_n, iI_add, iI_sub, iI_mul, iI_neg, jI_add, jI_sub, jI_mul, jI_neg, sh_1, an_1, xo_1, di_p, dj_p, i_64A, i_64, j_32, lq_ge, lq_lt, lq_le, lq_gt, lq_eq, i_lt, i_le, i_eq, j_eq, iI_A, jI_J, iI_b, iI_v, jI_v, ↓reduceIte, ite_true, ite_false, Int.reduceEq, Int.reduceLT, Int.reduceLE, Int.reduceAdd, Int.reduceSub, Int.reduceMul, Int.reduceNeg, not_true_eq_false, not_false_eq_true, agA hA, agJA hA, ag hA, v_nJ, v_nW, v_nD, v_toD, v_px, v_py, v_rg, v_kd, v_ft, v_on, v_bg, v_en, @nJ_ M0, @nW_ M0, @nD_ M0, @toD_ M0, @px_ M0, @py_ M0, @rg_ M0, @kd_ M0, @ft_ M0, @on_ M0, bt_, mf, bI_f q1]
theorem ofv_r (h1 : I1 M0) (h2 : I2 M0) (hc : cset M) {e : Int} (e0 : 0 ≤ e) (e1 : e < 2 * nW M0) : 0 ≤ ofv M0 M e ∧ ofv M0 M e ≤ 20000 := by
  obtain ⟨c1, c2, c3, c4⟩ := hc
  have he := en_r h2 e0 e1
  have pj := h1.2.2.1 _ he.1 he.2
  have k1 := mul_r (a := A M 219 69 - A M 219 67) (b := py M0 (en M0 e) - A M 219 68) (by omega) (by omega) (by omega) (by omega)
  have k2 := mul_r (a := A M 219 70 - A M 219 68) (b := px M0 (en M0 e) - A M 219 67) (by omega) (by omega) (by omega) (by omega)
  unfold ofv
  dsimp only
  split <;> omega
theorem m_off (hF : F = am_F T0 g) (hg : GG g) (hA : Ag M0 M) (h1 : I1 M0) (h2 : I2 M0) (hc : cset M) {e : Int} (e0 : 0 ≤ e) (e1 : e < 2 * nW M0) : F 127 0 [.ref 219, .int (iI e)] [] M = some (some (.long (jI (ofv M0 M e))), M) := by
  obtain ⟨c1, c2, c3, c4⟩ := hc
  have hn := h1.1
  have he := en_r h2 e0 e1
  have pj := h1.2.2.1 _ he.1 he.2
  have k1 := mul_r (a := A M 219 69 - A M 219 67) (b := py M0 (en M0 e) - A M 219 68) (by omega) (by omega) (by omega) (by omega)
  have k2 := mul_r (a := A M 219 70 - A M 219 68) (b := px M0 (en M0 e) - A M 219 67) (by omega) (by omega) (by omega) (by omega)
  refine s_Model_off hF hg ?_
  simp (disch := (first | omega | decide | assumption)) only [ltm_s, ok_n, rd_i, rd_j, fd_i, fd_j, wr_i, wr_j, fw_i, fw_j, ci_s, cj_s, cv_s, dv_n, dw_n, rt_1, rt_b, rt_20, rt_21, okb_0, okb_1, okb_b, nar_0, nar_1, nar_b, i_0, i_1, j_0, j_1, i_lit, j_lit, i_n, iI_add, iI_sub, iI_mul, iI_neg, jI_add, jI_sub, jI_mul, jI_neg, sh_1, an_1, xo_1, di_p, dj_p, i_64A, i_64, j_32, lq_ge, lq_lt, lq_le, lq_gt, lq_eq, i_lt, i_le, i_eq, j_eq, iI_A, jI_J, iI_b, iI_v, jI_v, ↓reduceIte, ite_true, ite_false, Int.reduceEq, Int.reduceLT, Int.reduceLE, Int.reduceAdd, Int.reduceSub, Int.reduceMul, Int.reduceNeg, not_true_eq_false, not_false_eq_true, agA hA, agJA hA, ag hA, v_nJ, v_nW, v_nD, v_toD, v_px, v_py, v_rg, v_kd, v_ft, v_on, v_bg, v_en, @nJ_ M0, @nW_ M0, @nD_ M0, @toD_ M0, @px_ M0, @py_ M0, @rg_ M0, @kd_ M0, @ft_ M0, @on_ M0, bt_, m_end hF hg hA h2, m_crs hF hg]
  unfold ofv
  dsimp only
  split <;> rfl
/-- before, by what is asked for -/
def lss (by_ t m u o : Int) : Prop := by_ = 0 ∧ (t < u ∨ t = u ∧ m < o) ∨ ¬ by_ = 0 ∧ (m < o ∨ m = o ∧ t < u)
theorem m_isLess (hF : F = am_F T0 g) (hg : GG g) {by_ t m u o : Int} (hb : A M 219 60 = by_) (hb01 : by_ = 0 ∨ by_ = 1) (t0 : -9223372036854775808 ≤ t) (t1 : t < 9223372036854775808) (m0 : -9223372036854775808 ≤ m) (m1 : m < 9223372036854775808) (u0 : -9223372036854775808 ≤ u) (u1 : u < 9223372036854775808) (o0 : -9223372036854775808 ≤ o) (o1 : o < 9223372036854775808) : F 56 0 [.ref 219, .long (jI t), .long (jI m), .long (jI u), .long (jI o)] [] M = some (some (.int (iI (bI (lss by_ t m u o)))), M) := by
  refine s_Model_isLess hF hg ?_
  by_cases q : lss by_ t m u o
  · rw [bI_t q]
    unfold lss at q
    rcases hb01 with rfl | rfl
    · simp (disch := (first | omega | decide | assumption)) only [ltm_s, ok_n, rd_i, rd_j, fd_i, fd_j, wr_i, wr_j, fw_i, fw_j, ci_s, cj_s, cv_s, dv_n, dw_n, rt_1, rt_b, rt_20, rt_21, okb_0, okb_1, okb_b, nar_0, nar_1, nar_b, i_0, i_1, j_0, j_1, i_lit, j_lit, i_n, iI_add, iI_sub, iI_mul, iI_neg, jI_add, jI_sub, jI_mul, jI_neg, sh_1, an_1, xo_1, di_p, dj_p, i_64A, i_64, j_32, lq_ge, lq_lt, lq_le, lq_gt, lq_eq, i_lt, i_le, i_eq, j_eq, iI_A, jI_J, iI_b, iI_v, jI_v, ↓reduceIte, ite_true, ite_false, Int.reduceEq, Int.reduceLT, Int.reduceLE, Int.reduceAdd, Int.reduceSub, Int.reduceMul, Int.reduceNeg, not_true_eq_false, not_false_eq_true, hb]
      (repeat' split) <;> first | rfl | (exfalso; omega)
    · simp (disch := (first | omega | decide | assumption)) only [ltm_s, ok_n, rd_i, rd_j, fd_i, fd_j, wr_i, wr_j, fw_i, fw_j, ci_s, cj_s, cv_s, dv_n, dw_n, rt_1, rt_b, rt_20, rt_21, okb_0, okb_1, okb_b, nar_0, nar_1, nar_b, i_0, i_1, j_0, j_1, i_lit, j_lit, i_n, iI_add, iI_sub, iI_mul, iI_neg, jI_add, jI_sub, jI_mul, jI_neg, sh_1, an_1, xo_1, di_p, dj_p, i_64A, i_64, j_32, lq_ge, lq_lt, lq_le, lq_gt, lq_eq, i_lt, i_le, i_eq, j_eq, iI_A, jI_J, iI_b, iI_v, jI_v, ↓reduceIte, ite_true, ite_false, Int.reduceEq, Int.reduceLT, Int.reduceLE, Int.reduceAdd, Int.reduceSub, Int.reduceMul, Int.reduceNeg, not_true_eq_false, not_false_eq_true, hb]
      (repeat' split) <;> first | rfl | (exfalso; omega)
  · rw [bI_f q]
    unfold lss at q
    rcases hb01 with rfl | rfl
    · simp (disch := (first | omega | decide | assumption)) only [ltm_s, ok_n, rd_i, rd_j, fd_i, fd_j, wr_i, wr_j, fw_i, fw_j, ci_s, cj_s, cv_s, dv_n, dw_n, rt_1, rt_b, rt_20, rt_21, okb_0, okb_1, okb_b, nar_0, nar_1, nar_b, i_0, i_1, j_0, j_1, i_lit, j_lit, i_n, iI_add, iI_sub, iI_mul, iI_neg, jI_add, jI_sub, jI_mul, jI_neg, sh_1, an_1, xo_1, di_p, dj_p, i_64A, i_64, j_32, lq_ge, lq_lt, lq_le, lq_gt, lq_eq, i_lt, i_le, i_eq, j_eq, iI_A, jI_J, iI_b, iI_v, jI_v, ↓reduceIte, ite_true, ite_false, Int.reduceEq, Int.reduceLT, Int.reduceLE, Int.reduceAdd, Int.reduceSub, Int.reduceMul, Int.reduceNeg, not_true_eq_false, not_false_eq_true, hb]
      (repeat' split) <;> first | rfl | (exfalso; omega)
    · simp (disch := (first | omega | decide | assumption)) only [ltm_s, ok_n, rd_i, rd_j, fd_i, fd_j, wr_i, wr_j, fw_i, fw_j, ci_s, cj_s, cv_s, dv_n, dw_n, rt_1, rt_b, rt_20, rt_21, okb_0, okb_1, okb_b, nar_0, nar_1, nar_b, i_0, i_1, j_0, j_1, i_lit, j_lit, i_n, iI_add, iI_sub, iI_mul, iI_neg, jI_add, jI_sub, jI_mul, jI_neg, sh_1, an_1, xo_1, di_p, dj_p, i_64A, i_64, j_32, lq_ge, lq_lt, lq_le, lq_gt, lq_eq, i_lt, i_le, i_eq, j_eq, iI_A, jI_J, iI_b, iI_v, jI_v, ↓reduceIte, ite_true, ite_false, Int.reduceEq, Int.reduceLT, Int.reduceLE, Int.reduceAdd, Int.reduceSub, Int.reduceMul, Int.reduceNeg, not_true_eq_false, not_false_eq_true, hb]
      (repeat' split) <;> first | rfl | (exfalso; omega)
/-- what the search is set to -/
def sset (md : Int × Int × Int × Int) (by_ : Int) (M : am_M) : Prop := mset md M ∧ cset M ∧ A M 219 60 = by_ ∧ (by_ = 0 ∨ by_ = 1)
theorem sset_ke {md : Int × Int × Int × Int} {by_ : Int} (h : sset md by_ M) (hK : Ke [262, 263] M M') : sset md by_ M' := by
  unfold sset mset cset
  simp only [hK.a (a := 219) (by decide)]
  exact h
theorem ofv_ke (hK : Ke [262, 263] M M') : ofv M0 M' = ofv M0 M := by
  funext e
  unfold ofv
  simp only [hK.a (a := 219) (by decide)]
theorem m_lets (hF : F = am_F T0 g) (hg : GG g) (hA : Ag M0 M) (h1 : I1 M0) (h2 : I2 M0) {md : Int × Int × Int × Int} {by_ : Int} (hs : sset md by_ M) {e t m : Int} (e0 : 0 ≤ e) (e1 : e < 2 * nW M0) (t0 : 0 ≤ t) (t1 : t ≤ 4000000) (m0 : 0 ≤ m) (m1 : m ≤ 4000000) :
    (lss by_ (t + ofv M0 M e) m (J M 262 e) (J M 263 e) → F 189 0 [.ref 219, .int (iI e), .long (jI t), .long (jI m)] [] M = some (some (.int (iI 1)), X_ (X_ M 262 e (t + ofv M0 M e)) 263 e m)) ∧
    (¬ lss by_ (t + ofv M0 M e) m (J M 262 e) (J M 263 e) → F 189 0 [.ref 219, .int (iI e), .long (jI t), .long (jI m)] [] M = some (some (.int (iI 0)), M)) := by
  have hn := h2.1
  have ho := ofv_r h1 h2 hs.2.1 e0 e1
  have l1 := J_lo M 262 e
  have l2 := J_hi M 262 e
  have l3 := J_lo M 263 e
  have l4 := J_hi M 263 e
  have il := m_isLess hF hg (M := M) hs.2.2.1 hs.2.2.2 (t := t + ofv M0 M e) (m := m) (u := J M 262 e) (o := J M 263 e) (by omega) (by omega) (by omega) (by omega) l1 l2 l3 l4
  refine ⟨fun q => ?_, fun q => ?_⟩
  · rw [bI_t q] at il
    refine s_Model_lets hF hg ?_
    simp (disch := (first | omega | decide | assumption)) only [ltm_s, ok_n, rd_i, rd_j, fd_i, fd_j, wr_i, wr_j, fw_i, fw_j, ci_s, cj_s, cv_s, dv_n, dw_n, rt_1, rt_b, rt_20, rt_21, okb_0, okb_1, okb_b, nar_0, nar_1, nar_b, i_0, i_1, j_0, j_1, i_lit, j_lit, i_n, iI_add, iI_sub, iI_mul, iI_neg, jI_add, jI_sub, jI_mul, jI_neg, sh_1, an_1, xo_1, di_p, dj_p, i_64A, i_64, j_32, lq_ge, lq_lt, lq_le, lq_gt, lq_eq, i_lt, i_le, i_eq, j_eq, iI_A, jI_J, iI_b, iI_v, jI_v, ↓reduceIte, ite_true, ite_false, Int.reduceEq, Int.reduceLT, Int.reduceLE, Int.reduceAdd, Int.reduceSub, Int.reduceMul, Int.reduceNeg, not_true_eq_false, not_false_eq_true, m_off hF hg hA h1 h2 hs.2.1, il]
  · rw [bI_f q] at il
    refine s_Model_lets hF hg ?_
    simp (disch := (first | omega | decide | assumption)) only [ltm_s, ok_n, rd_i, rd_j, fd_i, fd_j, wr_i, wr_j, fw_i, fw_j, ci_s, cj_s, cv_s, dv_n, dw_n, rt_1, rt_b, rt_20, rt_21, okb_0, okb_1, okb_b, nar_0, nar_1, nar_b, i_0, i_1, j_0, j_1, i_lit, j_lit, i_n, iI_add, iI_sub, iI_mul, iI_neg, jI_add, jI_sub, jI_mul, jI_neg, sh_1, an_1, xo_1, di_p, dj_p, i_64A, i_64, j_32, lq_ge, lq_lt, lq_le, lq_gt, lq_eq, i_lt, i_le, i_eq, j_eq, iI_A, jI_J, iI_b, iI_v, jI_v, ↓reduceIte, ite_true, ite_false, Int.reduceEq, Int.reduceLT, Int.reduceLE, Int.reduceAdd, Int.reduceSub, Int.reduceMul, Int.reduceNeg, not_true_eq_false, not_false_eq_true, m_off hF hg hA h1 h2 hs.2.1, il]
/-- the labels as the cells hold them -/
def MLab (M0 : am_M) (md : Int × Int × Int × Int) (by_ b : Int) (M : am_M) : Prop := Lab (2 * nW M0).toNat (may M0 md) (gol M0 b) by_ (ofv M0 M) (fun f => prc M0 (f / 2) md.2.2.1) (tdr M0 b) (J M 262) (J M 263)
def mcl (M0 : am_M) (by_ : Int) (M : am_M) (e : Int) : Int := cl by_ (ofv M0 M) (J M 262) (J M 263) e
theorem m_Lrg (h1 : I1 M0) (h2 : I2 M0) (h4 : I4 M0) (hc : cset M) {md : Int × Int × Int × Int} (u0 : 0 ≤ md.2.2.1) (u1 : md.2.2.1 < 24) {b : Int} (b0 : 0 ≤ b) (b1 : b < nD M0) : Lrg (2 * nW M0).toNat (ofv M0 M) (fun f => prc M0 (f / 2) md.2.2.1) (tdr M0 b) := by
  have hn := h2.1
  refine ⟨by omega, fun e e0 e1 => ⟨ofv_r h1 h2 hc e0 (by omega), prc_r h2 (by omega) (by omega) u0 u1, ?_⟩⟩
  have := tdr_r h2 h4 (f := e) b0 b1
  omega
/-- one try -/
theorem m_relax (hF : F = am_F T0 g) (hg : GG g) (hA : Ag M0 M) (h1 : I1 M0) (h2 : I2 M0) (h4 : I4 M0) {md : Int × Int × Int × Int} {by_ b : Int} (u0 : 0 ≤ md.2.2.1) (u1 : md.2.2.1 < 24) (b0 : 0 ≤ b) (b1 : b < nD M0) (hs : sset md by_ M) (hL : MLab M0 md by_ b M) {e f t m : Int} (e0 : 0 ≤ e) (e1 : e < 2 * nW M0) (f0 : 0 ≤ f) (f1 : f < 2 * nW M0) (hm : may M0 md e f)
    (hc : gol M0 b f ∧ t = 0 ∧ m = tdr M0 b f ∨ mcl M0 by_ M f ≠ FARC ∧ t = J M 262 f ∧ m = J M 263 f + prc M0 (f / 2) md.2.2.1) :
    ∃ (x : Int) (M' : am_M), F 189 0 [.ref 219, .int (iI e), .long (jI t), .long (jI m)] [] M = some (some (.int (iI x)), M') ∧ Ke [262, 263] M M' ∧ MLab M0 md by_ b M' ∧ (x = 1 ∧ sm (mcl M0 by_ M') (2 * nW M0).toNat < sm (mcl M0 by_ M) (2 * nW M0).toNat ∨ x = 0 ∧ M' = M ∧ mcl M0 by_ M e ≤ key by_ t m) := by
  have hn := h2.1
  have eF : FARC = 9223372036854775807 := rfl
  have hR := m_Lrg (md := md) h1 h2 h4 hs.2.1 u0 u1 b0 b1
  have hfe : f ≠ e := fun q => hm.1.2 (by rw [q])
  have re := Lab.r hR hL e0 (by omega)
  have rf := Lab.r hR hL f0 (by omega)
  have of := hR.2 f f0 (by omega)
  have oe := hR.2 e e0 (by omega)
  have hbt : (0 ≤ t ∧ t ≤ 1620000) ∧ 0 ≤ m ∧ m ≤ 194400 := by
    rcases hc with ⟨-, rfl, rfl⟩ | ⟨q, rfl, rfl⟩
    · omega
    · rcases rf with ⟨-, -, x⟩ | x
      · exact absurd x q
      · dsimp only at of ⊢; omega
  obtain ⟨p1, p2⟩ := m_lets hF hg hA h1 h2 hs (t := t) (m := m) e0 e1 hbt.1.1 (by omega) hbt.2.1 (by omega)
  by_cases q : lss by_ (t + ofv M0 M e) m (J M 262 e) (J M 263 e)
  · have hK : Ke [262, 263] M (X_ (X_ M 262 e (t + ofv M0 M e)) 263 e m) := (Ke.refl.x (by decide)).x (by decide)
    have hl : key by_ t m < cl by_ (ofv M0 M) (J M 262) (J M 263) e := by
      have hk := key_b (b := by_) (t := t) (m := m) hbt.1.1 (by omega) hbt.2.1 (by omega)
      rcases re with x | x
      · rw [x.2.2]; omega
      · rw [x.2.2.1, key_lt hbt.1.1 (by omega) hbt.2.1 (by omega) (by omega) (by omega) (by omega) (by omega)]
        unfold lss at q
        omega
    have st := Lab.step hR hL e0 (by omega) f0 (by omega) hm hfe hc hl (T' := J (X_ (X_ M 262 e (t + ofv M0 M e)) 263 e m) 262) (N' := J (X_ (X_ M 262 e (t + ofv M0 M e)) 263 e m) 263) (by rw [J_Xn (by decide), J_Xs (by omega) (by omega)]) (by rw [J_Xs (by omega) (by omega)]) (fun k k0 k1 kx => by rw [J_Xn (by decide), J_Xo e0 k0 kx]) (fun k k0 k1 kx => by rw [J_Xo e0 k0 kx, J_Xn (by decide)])
    refine ⟨1, _, p1 q, hK, ?_, Or.inl ⟨rfl, ?_⟩⟩
    · unfold MLab; rw [ofv_ke hK]; exact st.1
    · have : mcl M0 by_ (X_ (X_ M 262 e (t + ofv M0 M e)) 263 e m) = cl by_ (ofv M0 M) (J (X_ (X_ M 262 e (t + ofv M0 M e)) 263 e m) 262) (J (X_ (X_ M 262 e (t + ofv M0 M e)) 263 e m) 263) := by
        funext k; unfold mcl; rw [ofv_ke hK]
      rw [this]; exact st.2
  · refine ⟨0, M, p2 q, Ke.refl, hL, Or.inr ⟨rfl, rfl, ?_⟩⟩
    show cl by_ (ofv M0 M) (J M 262) (J M 263) e ≤ key by_ t m
    have hb01 := hs.2.2.2
    unfold lss at q
    rcases re with x | x
    · omega
    · have y := key_lt (b := by_) (t := t) (m := m) (u := J M 262 e - ofv M0 M e) (o := J M 263 e) hbt.1.1 (by omega) hbt.2.1 (by omega) (by omega) (by omega) (by omega) (by omega)
      rw [x.2.2.1]
      have : ¬ key by_ t m < key by_ (J M 262 e - ofv M0 M e) (J M 263 e) := fun z => q (by have := y.mp z; omega)
      omega
end Ld
