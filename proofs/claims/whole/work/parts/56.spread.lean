/-! THE FINDER'S SEARCH: what it fills is the least that is to come -/
/-- one number that orders by the one and then by the other: 0 twists first, else feet first -/
def key (by_ t n : Int) : Int := if by_ = 0 then t * 4294967296 + n else n * 4294967296 + t
theorem key_add {b t n u m : Int} : key b t n + key b u m = key b (t + u) (n + m) := by
  unfold key; split <;> omega
theorem sh32 (x : Int64) : x <<< (Int32.toInt64 32 &&& 63) = x * 4294967296 := by
  apply Int64.toBitVec_inj.mp
  rw [Int64.toBitVec_mul, Int64.toBitVec_shiftLeft]
  have e : ((Int32.toInt64 32 &&& 63 : Int64).toBitVec.smod 64) = 32#64 := by decide
  rw [e, BitVec.shiftLeft_eq', BitVec.shiftLeft_eq_mul_twoPow]
  rfl
theorem sh32_ {z : Int} : jI z <<< (jI 32 &&& jI 63) = jI (z * 4294967296) := by
  have h := sh32 (jI z)
  have e : (4294967296 : Int64) = jI 4294967296 := rfl
  rw [e, jI_mul] at h
  have e2 : (Int32.toInt64 32 &&& 63 : Int64) = (jI 32 &&& jI 63) := by decide
  rw [e2] at h
  exact h
noncomputable section
/-- how far from the string between two doors a junction lies -/
def strg (M : am_M) (a b j : Int) : Int :=
  let s := bg M (2 * A M 228 a); let t := bg M (2 * A M 228 b)
  let c := (px M t - px M s) * (py M j - py M s) - (py M t - py M s) * (px M j - px M s)
  if 0 ≤ c then c else -c
def offs (M : am_M) (a b e : Int) : Int := strg M a b (en M e)
def tdr (M : am_M) (b f : Int) : Int := if f % 2 = 0 then A M 229 b else ft M (A M 228 b) - A M 229 b
def fdr (M : am_M) (a e : Int) : Int := if e % 2 = 0 then ft M (A M 228 a) - A M 229 a else A M 229 a
def gol (M : am_M) (b f : Int) : Prop := f / 2 = A M 228 b
def gkk (M : am_M) (by_ b f : Int) : Int := key by_ 0 (tdr M b f)
def wkk (M : am_M) (by_ a b hour f : Int) : Int := key by_ (offs M a b f) (prc M (f / 2) hour)
end
section Sp
variable {M0 M : am_M} {g : am_G} {F : am_FT}
theorem r11 (h4 : I4 M0) {d : Int} (h0 : 0 ≤ d) (h1 : d < nD M0) : A M0 11 d = A M0 228 d := (h4.2.2 d h0 h1).2.2.2.1
theorem r12 (h4 : I4 M0) {d : Int} (h0 : 0 ≤ d) (h1 : d < nD M0) : A M0 12 d = A M0 229 d := (h4.2.2 d h0 h1).2.2.2.2.1
theorem r13 (h4 : I4 M0) {d : Int} (h0 : 0 ≤ d) (h1 : d < nD M0) : A M0 13 d = A M0 230 d := (h4.2.2 d h0 h1).2.2.2.2.2
theorem strg_r (h1 : I1 M0) (h2 : I2 M0) (h4 : I4 M0) {a b j : Int} (a0 : 0 ≤ a) (a1 : a < nD M0) (b0 : 0 ≤ b) (b1 : b < nD M0) (j0 : 0 ≤ j) (j1 : j < nJ M0) : 0 ≤ strg M0 a b j ∧ strg M0 a b j ≤ 20000 := by
  have wa := (h4.2.2 a a0 a1).1
  have wb := (h4.2.2 b b0 b1).1
  have sa := (h2.2.2.2 (2 * A M0 228 a) (by omega) (by omega)).1
  have sb := (h2.2.2.2 (2 * A M0 228 b) (by omega) (by omega)).1
  have ps := h1.2.2.1 _ sa.1 sa.2
  have pt := h1.2.2.1 _ sb.1 sb.2
  have pj := h1.2.2.1 _ j0 j1
  have c1 := mul_r (a := px M0 (bg M0 (2 * A M0 228 b)) - px M0 (bg M0 (2 * A M0 228 a))) (b := py M0 j - py M0 (bg M0 (2 * A M0 228 a))) (by omega) (by omega) (by omega) (by omega)
  have c2 := mul_r (a := py M0 (bg M0 (2 * A M0 228 b)) - py M0 (bg M0 (2 * A M0 228 a))) (b := px M0 j - px M0 (bg M0 (2 * A M0 228 a))) (by omega) (by omega) (by omega) (by omega)
  unfold strg
  dsimp only
  split <;> omega
theorem tdr_r (h2 : I2 M0) (h4 : I4 M0) {b f : Int} (b0 : 0 ≤ b) (b1 : b < nD M0) : 1 ≤ tdr M0 b f ∧ tdr M0 b f < ft M0 (A M0 228 b) ∧ ft M0 (A M0 228 b) ≤ 999 := by
  obtain ⟨w, d, -⟩ := h4.2.2 b b0 b1
  have hf := (h2.2.2.1 _ w.1 w.2).2.1
  unfold tdr
  split <;> omega
theorem fdr_r (h2 : I2 M0) (h4 : I4 M0) {b f : Int} (b0 : 0 ≤ b) (b1 : b < nD M0) : 1 ≤ fdr M0 b f ∧ fdr M0 b f ≤ 999 := by
  obtain ⟨w, d, -⟩ := h4.2.2 b b0 b1
  have hf := (h2.2.2.1 _ w.1 w.2).2.1
  unfold fdr
  split <;> omega
theorem c_abs (hF : F = am_F T0 g) (hg : GG g) {v : Int} (v1 : -2147483648 ≤ v) (v2 : v < 2147483648) : F 23 0 [.int (iI v)] [] M = some (some (.int (iI (if 0 ≤ v then v else -v))), M) := by
  refine s_JMath_abs hF hg ?_
  simp (disch := (first | omega | decide | assumption)) only [ltm_s, ok_n, rd_i, rd_j, fd_i, fd_j, wr_i, wr_j, fw_i, fw_j, ci_s, cj_s, cv_s, dv_n, dw_n, rt_1, rt_b, rt_20, rt_21, okb_0, okb_1, okb_b, nar_0, nar_1, nar_b, i_0, i_1, j_0, j_1, i_lit, j_lit, i_n, iI_add, iI_sub, iI_mul, iI_neg, jI_add, jI_sub, jI_mul, jI_neg, sh_1, an_1, xo_1, di_p, dj_p, i_64A, i_64, j_32, lq_ge, lq_lt, lq_le, lq_gt, lq_eq, i_lt, i_le, i_eq, j_eq, iI_A, jI_J, iI_b, iI_v, jI_v, ↓reduceIte, ite_true, ite_false, Int.reduceEq, Int.reduceLT, Int.reduceLE, Int.reduceAdd, Int.reduceSub, Int.reduceMul, Int.reduceNeg, not_true_eq_false, not_false_eq_true]
  (repeat' split) <;> first | rfl | (exfalso; omega) | (refine congrArg (fun z => some (some (Value.int (iI z)), M)) ?_; omega)
theorem c_minJ (hF : F = am_F T0 g) (hg : GG g) {v w : Int} (v1 : -9223372036854775808 ≤ v) (v2 : v < 9223372036854775808) (w1 : -9223372036854775808 ≤ w) (w2 : w < 9223372036854775808) : F 26 0 [.long (jI v), .long (jI w)] [] M = some (some (.long (jI (if w < v then w else v))), M) := by
  refine s_JMath_min_JJJ hF hg ?_
  simp (disch := (first | omega | decide | assumption)) only [ltm_s, ok_n, rd_i, rd_j, fd_i, fd_j, wr_i, wr_j, fw_i, fw_j, ci_s, cj_s, cv_s, dv_n, dw_n, rt_1, rt_b, rt_20, rt_21, okb_0, okb_1, okb_b, nar_0, nar_1, nar_b, i_0, i_1, j_0, j_1, i_lit, j_lit, i_n, iI_add, iI_sub, iI_mul, iI_neg, jI_add, jI_sub, jI_mul, jI_neg, sh_1, an_1, xo_1, di_p, dj_p, i_64A, i_64, j_32, lq_ge, lq_lt, lq_le, lq_gt, lq_eq, i_lt, i_le, i_eq, j_eq, iI_A, jI_J, iI_b, iI_v, jI_v, ↓reduceIte, ite_true, ite_false, Int.reduceEq, Int.reduceLT, Int.reduceLE, Int.reduceAdd, Int.reduceSub, Int.reduceMul, Int.reduceNeg, not_true_eq_false, not_false_eq_true]
  split <;> rfl
theorem c_feetToEnd (hF : F = am_F T0 g) (hg : GG g) (hA : Ag M0 M) (h2 : I2 M0) (h4 : I4 M0) {e d : Int} (e0 : 0 ≤ e) (e1 : e < 2 * nW M0) (d0 : 0 ≤ d) (d1 : d < nD M0) (hw : e / 2 = A M0 228 d) : F 7 0 [.ref 1, .int (iI e), .int (iI d)] [] M = some (some (.int (iI (fdr M0 d e))), M) := by
  have hn := h2.1
  have hd := h4.1
  refine s_City_feetToEnd hF hg ?_
  simp (disch := (first | omega | decide | assumption)) only [ltm_s, ok_n, rd_i, rd_j, fd_i, fd_j, wr_i, wr_j, fw_i, fw_j, ci_s, cj_s, cv_s, dv_n, dw_n, rt_1, rt_b, rt_20, rt_21, okb_0, okb_1, okb_b, nar_0, nar_1, nar_b, i_0, i_1, j_0, j_1, i_lit, j_lit, i_n, iI_add, iI_sub, iI_mul, iI_neg, jI_add, jI_sub, jI_mul, jI_neg, sh_1, an_1, xo_1, di_p, dj_p, i_64A, i_64, j_32, lq_ge, lq_lt, lq_le, lq_gt, lq_eq, i_lt, i_le, i_eq, j_eq, iI_A, jI_J, iI_b, iI_v, jI_v, ↓reduceIte, ite_true, ite_false, Int.reduceEq, Int.reduceLT, Int.reduceLE, Int.reduceAdd, Int.reduceSub, Int.reduceMul, Int.reduceNeg, not_true_eq_false, not_false_eq_true, agA hA, agJA hA, ag hA, v_nJ, v_nW, v_nD, v_toD, v_px, v_py, v_rg, v_kd, v_ft, v_on, v_bg, v_en, @nJ_ M0, @nW_ M0, @nD_ M0, @toD_ M0, @px_ M0, @py_ M0, @rg_ M0, @kd_ M0, @ft_ M0, @on_ M0, bt_, r6 h2, r12 h4, hw]
  unfold fdr
  rw [← hw]
  (repeat' split) <;> first | rfl | (exfalso; omega) | (refine congrArg (fun z => some (some (Value.int (iI z)), M)) ?_; omega)
theorem c_feetFromStart (hF : F = am_F T0 g) (hg : GG g) (hA : Ag M0 M) (h2 : I2 M0) (h4 : I4 M0) {e d : Int} (e0 : 0 ≤ e) (e1 : e < 2 * nW M0) (d0 : 0 ≤ d) (d1 : d < nD M0) (hw : e / 2 = A M0 228 d) : F 6 0 [.ref 1, .int (iI e), .int (iI d)] [] M = some (some (.int (iI (tdr M0 d e))), M) := by
  have hn := h2.1
  have hd := h4.1
  refine s_City_feetFromStart hF hg ?_
  simp (disch := (first | omega | decide | assumption)) only [ltm_s, ok_n, rd_i, rd_j, fd_i, fd_j, wr_i, wr_j, fw_i, fw_j, ci_s, cj_s, cv_s, dv_n, dw_n, rt_1, rt_b, rt_20, rt_21, okb_0, okb_1, okb_b, nar_0, nar_1, nar_b, i_0, i_1, j_0, j_1, i_lit, j_lit, i_n, iI_add, iI_sub, iI_mul, iI_neg, jI_add, jI_sub, jI_mul, jI_neg, sh_1, an_1, xo_1, di_p, dj_p, i_64A, i_64, j_32, lq_ge, lq_lt, lq_le, lq_gt, lq_eq, i_lt, i_le, i_eq, j_eq, iI_A, jI_J, iI_b, iI_v, jI_v, ↓reduceIte, ite_true, ite_false, Int.reduceEq, Int.reduceLT, Int.reduceLE, Int.reduceAdd, Int.reduceSub, Int.reduceMul, Int.reduceNeg, not_true_eq_false, not_false_eq_true, agA hA, agJA hA, ag hA, v_nJ, v_nW, v_nD, v_toD, v_px, v_py, v_rg, v_kd, v_ft, v_on, v_bg, v_en, @nJ_ M0, @nW_ M0, @nD_ M0, @toD_ M0, @px_ M0, @py_ M0, @rg_ M0, @kd_ M0, @ft_ M0, @on_ M0, bt_, r6 h2, r12 h4]
  unfold tdr
  rw [← hw]
  (repeat' split) <;> first | rfl | (exfalso; omega) | (refine congrArg (fun z => some (some (Value.int (iI z)), M)) ?_; omega)
theorem c_feetAhead (hF : F = am_F T0 g) (hg : GG g) (hA : Ag M0 M) (h2 : I2 M0) (h4 : I4 M0) {e a b : Int} (e0 : 0 ≤ e) (e1 : e < 2 * nW M0) (a0 : 0 ≤ a) (a1 : a < nD M0) (b0 : 0 ≤ b) (b1 : b < nD M0) : F 5 0 [.ref 1, .int (iI e), .int (iI a), .int (iI b)] [] M = some (some (.int (iI (if e % 2 = 0 then A M0 229 b - A M0 229 a else A M0 229 a - A M0 229 b))), M) := by
  have hn := h2.1
  have hd := h4.1
  refine s_City_feetAhead hF hg ?_
  simp (disch := (first | omega | decide | assumption)) only [ltm_s, ok_n, rd_i, rd_j, fd_i, fd_j, wr_i, wr_j, fw_i, fw_j, ci_s, cj_s, cv_s, dv_n, dw_n, rt_1, rt_b, rt_20, rt_21, okb_0, okb_1, okb_b, nar_0, nar_1, nar_b, i_0, i_1, j_0, j_1, i_lit, j_lit, i_n, iI_add, iI_sub, iI_mul, iI_neg, jI_add, jI_sub, jI_mul, jI_neg, sh_1, an_1, xo_1, di_p, dj_p, i_64A, i_64, j_32, lq_ge, lq_lt, lq_le, lq_gt, lq_eq, i_lt, i_le, i_eq, j_eq, iI_A, jI_J, iI_b, iI_v, jI_v, ↓reduceIte, ite_true, ite_false, Int.reduceEq, Int.reduceLT, Int.reduceLE, Int.reduceAdd, Int.reduceSub, Int.reduceMul, Int.reduceNeg, not_true_eq_false, not_false_eq_true, agA hA, agJA hA, ag hA, v_nJ, v_nW, v_nD, v_toD, v_px, v_py, v_rg, v_kd, v_ft, v_on, v_bg, v_en, @nJ_ M0, @nW_ M0, @nD_ M0, @toD_ M0, @px_ M0, @py_ M0, @rg_ M0, @kd_ M0, @ft_ M0, @on_ M0, bt_, r12 h4]
  (repeat' split) <;> first | rfl | (exfalso; omega) | (refine congrArg (fun z => some (some (Value.int (iI z)), M)) ?_; omega)
theorem c_key (hF : F = am_F T0 g) (hg : GG g) {b t n : Int} (hb : A M 32 13 = b) (hb01 : b = 0 ∨ b = 1) (t1 : -2147483648 ≤ t) (t2 : t < 2147483648) (n1 : -2147483648 ≤ n) (n2 : n < 2147483648) : F 17 0 [.ref 32, .int (iI t), .int (iI n)] [] M = some (some (.long (jI (key b t n))), M) := by
  refine s_Finder_key hF hg ?_
  simp (disch := (first | omega | decide | assumption)) only [ltm_s, ok_n, rd_i, rd_j, fd_i, fd_j, wr_i, wr_j, fw_i, fw_j, ci_s, cj_s, cv_s, dv_n, dw_n, rt_1, rt_b, rt_20, rt_21, okb_0, okb_1, okb_b, nar_0, nar_1, nar_b, i_0, i_1, j_0, j_1, i_lit, j_lit, i_n, iI_add, iI_sub, iI_mul, iI_neg, jI_add, jI_sub, jI_mul, jI_neg, sh_1, an_1, xo_1, di_p, dj_p, i_64A, i_64, j_32, lq_ge, lq_lt, lq_le, lq_gt, lq_eq, i_lt, i_le, i_eq, j_eq, iI_A, jI_J, iI_b, iI_v, jI_v, ↓reduceIte, ite_true, ite_false, Int.reduceEq, Int.reduceLT, Int.reduceLE, Int.reduceAdd, Int.reduceSub, Int.reduceMul, Int.reduceNeg, not_true_eq_false, not_false_eq_true, hb, sh32_]
  unfold key
  rcases hb01 with rfl | rfl
  · simp (disch := (first | omega | decide | assumption)) only [ltm_s, ok_n, rd_i, rd_j, fd_i, fd_j, wr_i, wr_j, fw_i, fw_j, ci_s, cj_s, cv_s, dv_n, dw_n, rt_1, rt_b, rt_20, rt_21, okb_0, okb_1, okb_b, nar_0, nar_1, nar_b, i_0, i_1, j_0, j_1, i_lit, j_lit, i_n, iI_add, iI_sub, iI_mul, iI_neg, jI_add, jI_sub, jI_mul, jI_neg, sh_1, an_1, xo_1, di_p, dj_p, i_64A, i_64, j_32, lq_ge, lq_lt, lq_le, lq_gt, lq_eq, i_lt, i_le, i_eq, j_eq, iI_A, jI_J, iI_b, iI_v, jI_v, ↓reduceIte, ite_true, ite_false, Int.reduceEq, Int.reduceLT, Int.reduceLE, Int.reduceAdd, Int.reduceSub, Int.reduceMul, Int.reduceNeg, not_true_eq_false, not_false_eq_true, hb, sh32_]
  · simp (disch := (first | omega | decide | assumption)) only [ltm_s, ok_n, rd_i, rd_j, fd_i, fd_j, wr_i, wr_j, fw_i, fw_j, ci_s, cj_s, cv_s, dv_n, dw_n, rt_1, rt_b, rt_20, rt_21, okb_0, okb_1, okb_b, nar_0, nar_1, nar_b, i_0, i_1, j_0, j_1, i_lit, j_lit, i_n, iI_add, iI_sub, iI_mul, iI_neg, jI_add, jI_sub, jI_mul, jI_neg, sh_1, an_1, xo_1, di_p, dj_p, i_64A, i_64, j_32, lq_ge, lq_lt, lq_le, lq_gt, lq_eq, i_lt, i_le, i_eq, j_eq, iI_A, jI_J, iI_b, iI_v, jI_v, ↓reduceIte, ite_true, ite_false, Int.reduceEq, Int.reduceLT, Int.reduceLE, Int.reduceAdd, Int.reduceSub, Int.reduceMul, Int.reduceNeg, not_true_eq_false, not_false_eq_true, hb, sh32_]
theorem c_stretch_l (hF : F = am_F T0 g) (hg : GG g) (h1 : I1 M0) (h2 : I2 M0) (h4 : I4 M0) {a b : Int} (a0 : 0 ≤ a) (a1 : a < nD M0) (b0 : 0 ≤ b) (b1 : b < nD M0) : ∀ (n k : Nat) (M : am_M), (k : Int) + n = nJ M0 → Ag M0 M → (∀ j : Int, 0 ≤ j → j < (k : Int) → A M 37 j = strg M0 a b j) →
    ∃ M' : am_M, F 98 86 [.ref 32, .int (iI (bg M0 (2 * A M0 228 a))), .int (iI (px M0 (bg M0 (2 * A M0 228 b)) - px M0 (bg M0 (2 * A M0 228 a)))), .int (iI (py M0 (bg M0 (2 * A M0 228 b)) - py M0 (bg M0 (2 * A M0 228 a)))), .int (iI k)] [] M = some (none, M') ∧ Ke [37] M M' ∧ ∀ j : Int, 0 ≤ j → j < nJ M0 → A M' 37 j = strg M0 a b j := by
  intro n
  induction n with
  | zero =>
    intro k M h hA hp
    have hn := h1.1
    refine ⟨M, ?_, Ke.refl, fun j j0 j1 => hp j j0 (by omega)⟩
    refine s_Finder_stretchString_86 hF hg ?_
    simp (disch := (first | omega | decide | assumption)) only [ltm_s, ok_n, rd_i, rd_j, fd_i, fd_j, wr_i, wr_j, fw_i, fw_j, ci_s, cj_s, cv_s, dv_n, dw_n, rt_1, rt_b, rt_20, rt_21, okb_0, okb_1, okb_b, nar_0, nar_1, nar_b, i_0, i_1, j_0, j_1, i_lit, j_lit, i_n, iI_add, iI_sub, iI_mul, iI_neg, jI_add, jI_sub, jI_mul, jI_neg, sh_1, an_1, xo_1, di_p, dj_p, i_64A, i_64, j_32, lq_ge, lq_lt, lq_le, lq_gt, lq_eq, i_lt, i_le, i_eq, j_eq, iI_A, jI_J, iI_b, iI_v, jI_v, ↓reduceIte, ite_true, ite_false, Int.reduceEq, Int.reduceLT, Int.reduceLE, Int.reduceAdd, Int.reduceSub, Int.reduceMul, Int.reduceNeg, not_true_eq_false, not_false_eq_true, agA hA, agJA hA, ag hA, v_nJ, v_nW, v_nD, v_toD, v_px, v_py, v_rg, v_kd, v_ft, v_on, v_bg, v_en, @nJ_ M0, @nW_ M0, @nD_ M0, @toD_ M0, @px_ M0, @py_ M0, @rg_ M0, @kd_ M0, @ft_ M0, @on_ M0, bt_, h1.2.1]
    rw [if_pos (by omega)]
  | succ n ih =>
    intro k M h hA hp
    have hn := h1.1
    have ek : ((k + 1 : Nat) : Int) = (k : Int) + 1 := by omega
    have hlt : ¬ nJ M0 ≤ (k : Int) := by omega
    have wa := (h4.2.2 a a0 a1).1
    have wb := (h4.2.2 b b0 b1).1
    have sa := (h2.2.2.2 (2 * A M0 228 a) (by omega) (by omega)).1
    have sb := (h2.2.2.2 (2 * A M0 228 b) (by omega) (by omega)).1
    have ps := h1.2.2.1 _ sa.1 sa.2
    have pt := h1.2.2.1 _ sb.1 sb.2
    have pj := h1.2.2.1 k (by omega) (by omega)
    have hr := strg_r h1 h2 h4 a0 a1 b0 b1 (j := k) (by omega) (by omega)
    have c1 := mul_r (a := px M0 (bg M0 (2 * A M0 228 b)) - px M0 (bg M0 (2 * A M0 228 a))) (b := py M0 k - py M0 (bg M0 (2 * A M0 228 a))) (by omega) (by omega) (by omega) (by omega)
    have c2 := mul_r (a := py M0 (bg M0 (2 * A M0 228 b)) - py M0 (bg M0 (2 * A M0 228 a))) (b := px M0 k - px M0 (bg M0 (2 * A M0 228 a))) (by omega) (by omega) (by omega) (by omega)
    have hst : (if 0 ≤ (px M0 (bg M0 (2 * A M0 228 b)) - px M0 (bg M0 (2 * A M0 228 a))) * (py M0 k - py M0 (bg M0 (2 * A M0 228 a))) - (py M0 (bg M0 (2 * A M0 228 b)) - py M0 (bg M0 (2 * A M0 228 a))) * (px M0 k - px M0 (bg M0 (2 * A M0 228 a))) then (px M0 (bg M0 (2 * A M0 228 b)) - px M0 (bg M0 (2 * A M0 228 a))) * (py M0 k - py M0 (bg M0 (2 * A M0 228 a))) - (py M0 (bg M0 (2 * A M0 228 b)) - py M0 (bg M0 (2 * A M0 228 a))) * (px M0 k - px M0 (bg M0 (2 * A M0 228 a))) else -((px M0 (bg M0 (2 * A M0 228 b)) - px M0 (bg M0 (2 * A M0 228 a))) * (py M0 k - py M0 (bg M0 (2 * A M0 228 a))) - (py M0 (bg M0 (2 * A M0 228 b)) - py M0 (bg M0 (2 * A M0 228 a))) * (px M0 k - px M0 (bg M0 (2 * A M0 228 a))))) = strg M0 a b k := rfl
    have hK : Ke [37] M (W_ M 37 k (strg M0 a b k)) := Ke.refl.w (by decide)
    obtain ⟨M', q1, q2, q3⟩ := ih (k + 1) (W_ M 37 k (strg M0 a b k)) (by omega) (hA.trans (hK.ag (by decide))) (fun j j0 j1 => by
      by_cases ej : j = k
      · rw [ej, A_Ws (by omega) (by omega)]
      · rw [A_Wo (by omega) j0 ej]; exact hp j j0 (by omega))
    rw [ek] at q1
    refine ⟨M', ?_, hK.trans q2, q3⟩
    refine s_Finder_stretchString_86 hF hg ?_
    simp (disch := (first | omega | decide | assumption)) only [ltm_s, ok_n, rd_i, rd_j, fd_i, fd_j, wr_i, wr_j, fw_i, fw_j, ci_s, cj_s, cv_s, dv_n, dw_n, rt_1, rt_b, rt_20, rt_21, okb_0, okb_1, okb_b, nar_0, nar_1, nar_b, i_0, i_1, j_0, j_1, i_lit, j_lit, i_n, iI_add, iI_sub, iI_mul, iI_neg, jI_add, jI_sub, jI_mul, jI_neg, sh_1, an_1, xo_1, di_p, dj_p, i_64A, i_64, j_32, lq_ge, lq_lt, lq_le, lq_gt, lq_eq, i_lt, i_le, i_eq, j_eq, iI_A, jI_J, iI_b, iI_v, jI_v, ↓reduceIte, ite_true, ite_false, Int.reduceEq, Int.reduceLT, Int.reduceLE, Int.reduceAdd, Int.reduceSub, Int.reduceMul, Int.reduceNeg, not_true_eq_false, not_false_eq_true, agA hA, agJA hA, ag hA, v_nJ, v_nW, v_nD, v_toD, v_px, v_py, v_rg, v_kd, v_ft, v_on, v_bg, v_en, @nJ_ M0, @nW_ M0, @nD_ M0, @toD_ M0, @px_ M0, @py_ M0, @rg_ M0, @kd_ M0, @ft_ M0, @on_ M0, bt_, h1.2.1, hlt, (h1.2.2.1 k (by omega) (by omega)).2.2.2.1, (h1.2.2.1 k (by omega) (by omega)).2.2.2.2.1, ps.2.2.2.1, ps.2.2.2.2.1, c_abs hF hg, hst, q1]
theorem c_stretchString (hF : F = am_F T0 g) (hg : GG g) (hA : Ag M0 M) (h1 : I1 M0) (h2 : I2 M0) (h4 : I4 M0) {a b : Int} (a0 : 0 ≤ a) (a1 : a < nD M0) (b0 : 0 ≤ b) (b1 : b < nD M0) : ∃ M' : am_M, F 98 0 [.ref 32, .int (iI a), .int (iI b)] [] M = some (none, M') ∧ Ke [37] M M' ∧ ∀ j : Int, 0 ≤ j → j < nJ M0 → A M' 37 j = strg M0 a b j := by
  have hn := h1.1
  have hw := h2.1
  have hd := h4.1
  have wa := (h4.2.2 a a0 a1).1
  have wb := (h4.2.2 b b0 b1).1
  have sa := (h2.2.2.2 (2 * A M0 228 a) (by omega) (by omega)).1
  have sb := (h2.2.2.2 (2 * A M0 228 b) (by omega) (by omega)).1
  have ps := h1.2.2.1 _ sa.1 sa.2
  have pt := h1.2.2.1 _ sb.1 sb.2
  obtain ⟨M', q1, q2⟩ := c_stretch_l hF hg h1 h2 h4 a0 a1 b0 b1 (nJ M0).toNat 0 M (by omega) hA (fun j j0 j1 => by omega)
  have e0 : iI ((0 : Nat) : Int) = iI 0 := rfl
  rw [e0] at q1
  refine ⟨M', ?_, q2⟩
  refine s_Finder_stretchString hF hg ?_
  simp (disch := (first | omega | decide | assumption)) only [ltm_s, ok_n, rd_i, rd_j, fd_i, fd_j, wr_i, wr_j, fw_i, fw_j, ci_s, cj_s, cv_s, dv_n, dw_n, rt_1, rt_b, rt_20, rt_21, okb_0, okb_1, okb_b, nar_0, nar_1, nar_b, i_0, i_1, j_0, j_1, i_lit, j_lit, i_n, iI_add, iI_sub, iI_mul, iI_neg, jI_add, jI_sub, jI_mul, jI_neg, sh_1, an_1, xo_1, di_p, dj_p, i_64A, i_64, j_32, lq_ge, lq_lt, lq_le, lq_gt, lq_eq, i_lt, i_le, i_eq, j_eq, iI_A, jI_J, iI_b, iI_v, jI_v, ↓reduceIte, ite_true, ite_false, Int.reduceEq, Int.reduceLT, Int.reduceLE, Int.reduceAdd, Int.reduceSub, Int.reduceMul, Int.reduceNeg, not_true_eq_false, not_false_eq_true, agA hA, agJA hA, ag hA, v_nJ, v_nW, v_nD, v_toD, v_px, v_py, v_rg, v_kd, v_ft, v_on, v_bg, v_en, @nJ_ M0, @nW_ M0, @nD_ M0, @toD_ M0, @px_ M0, @py_ M0, @rg_ M0, @kd_ M0, @ft_ M0, @on_ M0, bt_, r11 h4, c_startOf hF hg hA h2, ps.2.2.2.1, ps.2.2.2.2.1, pt.2.2.2.1, pt.2.2.2.2.1, q1]
/-- the legs weighed -/
def wgh (M0 : am_M) (by_ a b hour : Int) (M : am_M) : Prop := A M 32 13 = by_ ∧ (∀ j : Int, 0 ≤ j → j < nJ M0 → A M 37 j = strg M0 a b j) ∧ ∀ e : Int, 0 ≤ e → e < 2 * nW M0 → J M 38 e = wkk M0 by_ a b hour e ∧ (gol M0 b e → J M 39 e = gkk M0 by_ b e) ∧ (¬ gol M0 b e → J M 39 e = FARC)
theorem key_r {by_ t n : Int} (t0 : 0 ≤ t) (t1 : t ≤ 20000) (n0 : 0 ≤ n) (n1 : n ≤ 20000) : 0 ≤ key by_ t n ∧ key by_ t n ≤ 20001 * 4294967296 ∧ (0 < n → 0 < key by_ t n) := by
  unfold key; split <;> omega
theorem c_weigh_l (hF : F = am_F T0 g) (hg : GG g) (h1 : I1 M0) (h2 : I2 M0) (h4 : I4 M0) {by_ a b hour : Int} (hb : by_ = 0 ∨ by_ = 1) (a0 : 0 ≤ a) (a1 : a < nD M0) (b0 : 0 ≤ b) (b1 : b < nD M0) (u0 : 0 ≤ hour) (u1 : hour < 24) : ∀ (n k : Nat) (M : am_M), (k : Int) + n = 2 * nW M0 → Ag M0 M → A M 32 13 = by_ → (∀ j : Int, 0 ≤ j → j < nJ M0 → A M 37 j = strg M0 a b j) → (∀ w : Int, 0 ≤ w → w < nW M0 → A M 34 w = prc M0 w hour) →
    (∀ e : Int, 0 ≤ e → e < (k : Int) → J M 38 e = wkk M0 by_ a b hour e ∧ (gol M0 b e → J M 39 e = gkk M0 by_ b e) ∧ (¬ gol M0 b e → J M 39 e = FARC)) →
    ∃ M' : am_M, F 99 2 [.ref 32, .int (iI b), .int (iI k)] [] M = some (none, M') ∧ Ke [38, 39] M M' ∧ wgh M0 by_ a b hour M' := by
  intro n
  induction n with
  | zero =>
    intro k M h hA hm hs hp hq
    have hn := h2.1
    refine ⟨M, ?_, Ke.refl, hm, hs, fun e e0 e1 => hq e e0 (by omega)⟩
    refine s_Finder_weighLegs_2 hF hg ?_
    simp (disch := (first | omega | decide | assumption)) only [ltm_s, ok_n, rd_i, rd_j, fd_i, fd_j, wr_i, wr_j, fw_i, fw_j, ci_s, cj_s, cv_s, dv_n, dw_n, rt_1, rt_b, rt_20, rt_21, okb_0, okb_1, okb_b, nar_0, nar_1, nar_b, i_0, i_1, j_0, j_1, i_lit, j_lit, i_n, iI_add, iI_sub, iI_mul, iI_neg, jI_add, jI_sub, jI_mul, jI_neg, sh_1, an_1, xo_1, di_p, dj_p, i_64A, i_64, j_32, lq_ge, lq_lt, lq_le, lq_gt, lq_eq, i_lt, i_le, i_eq, j_eq, iI_A, jI_J, iI_b, iI_v, jI_v, ↓reduceIte, ite_true, ite_false, Int.reduceEq, Int.reduceLT, Int.reduceLE, Int.reduceAdd, Int.reduceSub, Int.reduceMul, Int.reduceNeg, not_true_eq_false, not_false_eq_true, agA hA, agJA hA, ag hA, v_nJ, v_nW, v_nD, v_toD, v_px, v_py, v_rg, v_kd, v_ft, v_on, v_bg, v_en, @nJ_ M0, @nW_ M0, @nD_ M0, @toD_ M0, @px_ M0, @py_ M0, @rg_ M0, @kd_ M0, @ft_ M0, @on_ M0, bt_, c_legCount hF hg hA h2]
    rw [if_pos (by omega)]
  | succ n ih =>
    intro k M h hA hm hs hp hq
    have hn := h2.1
    have hj := h1.1
    have hd := h4.1
    have ek : ((k + 1 : Nat) : Int) = (k : Int) + 1 := by omega
    have hlt : ¬ 2 * nW M0 ≤ (k : Int) := by omega
    have he := en_r h2 (e := k) (by omega) (by omega)
    have hst := strg_r h1 h2 h4 a0 a1 b0 b1 he.1 he.2
    have hpr := prc_r h2 (w := (k : Int) / 2) (by omega) (by omega) u0 u1
    have hs' := hs _ he.1 he.2
    have hp' := hp ((k : Int) / 2) (by omega) (by omega)
    have ewk : key by_ (strg M0 a b (en M0 k)) (prc M0 ((k : Int) / 2) hour) = wkk M0 by_ a b hour k := rfl
    have rwk : 0 ≤ wkk M0 by_ a b hour k ∧ wkk M0 by_ a b hour k ≤ 20001 * 4294967296 := by
      have := key_r (by_ := by_) hst.1 hst.2 (n := prc M0 ((k : Int) / 2) hour) (by omega) (by omega)
      rw [ewk] at this
      exact ⟨this.1, this.2.1⟩
    have key1 := fun (M1 : am_M) (hh : A M1 32 13 = by_) => c_key (M := M1) hF hg hh hb (t := strg M0 a b (en M0 k)) (n := prc M0 ((k : Int) / 2) hour) (by omega) (by omega) (by omega) (by omega)
    by_cases q : (k : Int) / 2 = A M0 228 b
    · have htd := tdr_r h2 h4 (f := k) b0 b1
      have egk : key by_ 0 (tdr M0 b k) = gkk M0 by_ b k := rfl
      have rgk : 0 ≤ gkk M0 by_ b k ∧ gkk M0 by_ b k ≤ 20001 * 4294967296 := by
        have := key_r (by_ := by_) (t := 0) (n := tdr M0 b k) (by omega) (by omega) (by omega) (by omega)
        rw [egk] at this
        exact ⟨this.1, this.2.1⟩
      have hK : Ke [38, 39] M (X_ (X_ M 38 k (wkk M0 by_ a b hour k)) 39 k (gkk M0 by_ b k)) := (Ke.refl.x (by decide)).x (by decide)
      have hK1 : Ke [38, 39] M (X_ M 38 k (wkk M0 by_ a b hour k)) := Ke.refl.x (by decide)
      have hA1 : Ag M0 (X_ M 38 k (wkk M0 by_ a b hour k)) := hA.trans (hK1.ag (by decide))
      have key2 := c_key (M := X_ M 38 k (wkk M0 by_ a b hour k)) hF hg ((hK1.a (by decide)).trans hm) hb (t := 0) (n := tdr M0 b k) (by omega) (by omega) (by omega) (by omega)
      have ffs := c_feetFromStart hF hg hA1 h2 h4 (e := k) (d := b) (by omega) (by omega) b0 b1 q
      obtain ⟨M', q1, q2, q3⟩ := ih (k + 1) _ (by omega) (hA.trans (hK.ag (by decide))) ((hK.a (by decide)).trans hm) (fun j j0 j1 => by rw [hK.a (by decide)]; exact hs j j0 j1) (fun w w0 w1 => by rw [hK.a (by decide)]; exact hp w w0 w1) (fun e e0 e1 => by
        by_cases ee : e = k
        · rw [ee, J_Xn (by decide), J_Xs (by omega) (by omega), J_Xs (by omega) (by omega)]
          exact ⟨rfl, fun _ => rfl, fun x => absurd q x⟩
        · rw [J_Xn (by decide), J_Xo (by omega) e0 ee, J_Xo (by omega) e0 ee, J_Xn (by decide)]
          exact hq e e0 (by omega))
      rw [ek] at q1
      refine ⟨M', ?_, hK.trans q2, q3⟩
      refine s_Finder_weighLegs_2 hF hg ?_
      simp (disch := (first | omega | decide | assumption)) only [ltm_s, ok_n, rd_i, rd_j, fd_i, fd_j, wr_i, wr_j, fw_i, fw_j, ci_s, cj_s, cv_s, dv_n, dw_n, rt_1, rt_b, rt_20, rt_21, okb_0, okb_1, okb_b, nar_0, nar_1, nar_b, i_0, i_1, j_0, j_1, i_lit, j_lit, i_n, iI_add, iI_sub, iI_mul, iI_neg, jI_add, jI_sub, jI_mul, jI_neg, sh_1, an_1, xo_1, di_p, dj_p, i_64A, i_64, j_32, lq_ge, lq_lt, lq_le, lq_gt, lq_eq, i_lt, i_le, i_eq, j_eq, iI_A, jI_J, iI_b, iI_v, jI_v, ↓reduceIte, ite_true, ite_false, Int.reduceEq, Int.reduceLT, Int.reduceLE, Int.reduceAdd, Int.reduceSub, Int.reduceMul, Int.reduceNeg, not_true_eq_false, not_false_eq_true, agA hA, agJA hA, ag hA, v_nJ, v_nW, v_nD, v_toD, v_px, v_py, v_rg, v_kd, v_ft, v_on, v_bg, v_en, @nJ_ M0, @nW_ M0, @nD_ M0, @toD_ M0, @px_ M0, @py_ M0, @rg_ M0, @kd_ M0, @ft_ M0, @on_ M0, bt_, hlt, c_legCount hF hg hA h2, c_endOf hF hg hA h2, hs', hp', key1 M hm, ewk, agA hA1, r11 h4, ffs, key2, egk, q1]
      rw [if_pos q]
    · have hK : Ke [38, 39] M (X_ (X_ M 38 k (wkk M0 by_ a b hour k)) 39 k FARC) := (Ke.refl.x (by decide)).x (by decide)
      have hK1 : Ke [38, 39] M (X_ M 38 k (wkk M0 by_ a b hour k)) := Ke.refl.x (by decide)
      have hA1 : Ag M0 (X_ M 38 k (wkk M0 by_ a b hour k)) := hA.trans (hK1.ag (by decide))
      have eF : FARC = 9223372036854775807 := rfl
      obtain ⟨M', q1, q2, q3⟩ := ih (k + 1) _ (by omega) (hA.trans (hK.ag (by decide))) ((hK.a (by decide)).trans hm) (fun j j0 j1 => by rw [hK.a (by decide)]; exact hs j j0 j1) (fun w w0 w1 => by rw [hK.a (by decide)]; exact hp w w0 w1) (fun e e0 e1 => by
        by_cases ee : e = k
        · rw [ee, J_Xn (by decide), J_Xs (by omega) (by omega), J_Xs (by omega) (by omega)]
          exact ⟨rfl, fun x => absurd x q, fun _ => rfl⟩
        · rw [J_Xn (by decide), J_Xo (by omega) e0 ee, J_Xo (by omega) e0 ee, J_Xn (by decide)]
          exact hq e e0 (by omega))
      rw [ek, eF] at q1
      refine ⟨M', ?_, hK.trans q2, q3⟩
      refine s_Finder_weighLegs_2 hF hg ?_
      simp (disch := (first | omega | decide | assumption)) only [ltm_s, ok_n, rd_i, rd_j, fd_i, fd_j, wr_i, wr_j, fw_i, fw_j, ci_s, cj_s, cv_s, dv_n, dw_n, rt_1, rt_b, rt_20, rt_21, okb_0, okb_1, okb_b, nar_0, nar_1, nar_b, i_0, i_1, j_0, j_1, i_lit, j_lit, i_n, iI_add, iI_sub, iI_mul, iI_neg, jI_add, jI_sub, jI_mul, jI_neg, sh_1, an_1, xo_1, di_p, dj_p, i_64A, i_64, j_32, lq_ge, lq_lt, lq_le, lq_gt, lq_eq, i_lt, i_le, i_eq, j_eq, iI_A, jI_J, iI_b, iI_v, jI_v, ↓reduceIte, ite_true, ite_false, Int.reduceEq, Int.reduceLT, Int.reduceLE, Int.reduceAdd, Int.reduceSub, Int.reduceMul, Int.reduceNeg, not_true_eq_false, not_false_eq_true, agA hA, agJA hA, ag hA, v_nJ, v_nW, v_nD, v_toD, v_px, v_py, v_rg, v_kd, v_ft, v_on, v_bg, v_en, @nJ_ M0, @nW_ M0, @nD_ M0, @toD_ M0, @px_ M0, @py_ M0, @rg_ M0, @kd_ M0, @ft_ M0, @on_ M0, bt_, hlt, c_legCount hF hg hA h2, c_endOf hF hg hA h2, hs', hp', key1 M hm, ewk, agA hA1, r11 h4, q, q1]
theorem c_weighLegs (hF : F = am_F T0 g) (hg : GG g) (hA : Ag M0 M) (h1 : I1 M0) (h2 : I2 M0) (h4 : I4 M0) {by_ a b hour : Int} (hb : by_ = 0 ∨ by_ = 1) (a0 : 0 ≤ a) (a1 : a < nD M0) (b0 : 0 ≤ b) (b1 : b < nD M0) (u0 : 0 ≤ hour) (u1 : hour < 24) (hm : A M 32 13 = by_) (hs : ∀ j : Int, 0 ≤ j → j < nJ M0 → A M 37 j = strg M0 a b j) (hp : ∀ w : Int, 0 ≤ w → w < nW M0 → A M 34 w = prc M0 w hour) :
    ∃ M' : am_M, F 99 0 [.ref 32, .int (iI b)] [] M = some (none, M') ∧ Ke [38, 39] M M' ∧ wgh M0 by_ a b hour M' := by
  have hn := h2.1
  obtain ⟨M', q1, q2⟩ := c_weigh_l hF hg h1 h2 h4 hb a0 a1 b0 b1 u0 u1 (2 * nW M0).toNat 0 M (by omega) hA hm hs hp (fun e e0 e1 => by omega)
  exact ⟨M', s_Finder_weighLegs hF hg q1, q2⟩
/-- offers along the exits of a junction -/
theorem c_offer_l (hF : F = am_F T0 g) (hg : GG g) (h1 : I1 M0) (h2 : I2 M0) (h3 : I3 M0) {md : Int × Int × Int × Int} {f v : Int} (f0 : 0 ≤ f) (f1 : f < 2 * nW M0) (v0 : -9223372036854775808 ≤ v) (v1 : v < 9223372036854775808) : ∀ (n k : Nat) (M : am_M), (k : Int) + n = A M0 17 (bg M0 f) → Ag M0 M → fset M0 md M →
    ∃ M' : am_M, F 97 13 [.ref 32, .int (iI f), .long (jI v), .int (iI (bg M0 f)), .int (iI k)] [] M = some (none, M') ∧ Ke [40] M M' ∧ ∀ e : Int, 0 ≤ e → e < 2 * nW M0 → ((∃ i : Int, (k : Int) ≤ i ∧ i < A M0 17 (bg M0 f) ∧ xo (A M0 16 (bg M0 f * 40 + i)) = e) ∧ may M0 md e f ∧ v < J M 40 e → J M' 40 e = v) ∧ (¬ ((∃ i : Int, (k : Int) ≤ i ∧ i < A M0 17 (bg M0 f) ∧ xo (A M0 16 (bg M0 f * 40 + i)) = e) ∧ may M0 md e f ∧ v < J M 40 e) → J M' 40 e = J M 40 e) := by
  intro n
  induction n with
  | zero =>
    intro k M h hA hs
    have hn := h2.1
    have hj := (h2.2.2.2 f f0 f1).1
    have hJ := h1.1
    have hc := (h3 (bg M0 f) (by omega) (by omega)).1
    refine ⟨M, ?_, Ke.refl, fun e e0 e1 => ⟨?_, fun _ => rfl⟩⟩
    · refine s_Finder_offer_13 hF hg ?_
      simp (disch := (first | omega | decide | assumption)) only [ltm_s, ok_n, rd_i, rd_j, fd_i, fd_j, wr_i, wr_j, fw_i, fw_j, ci_s, cj_s, cv_s, dv_n, dw_n, rt_1, rt_b, rt_20, rt_21, okb_0, okb_1, okb_b, nar_0, nar_1, nar_b, i_0, i_1, j_0, j_1, i_lit, j_lit, i_n, iI_add, iI_sub, iI_mul, iI_neg, jI_add, jI_sub, jI_mul, jI_neg, sh_1, an_1, xo_1, di_p, dj_p, i_64A, i_64, j_32, lq_ge, lq_lt, lq_le, lq_gt, lq_eq, i_lt, i_le, i_eq, j_eq, iI_A, jI_J, iI_b, iI_v, jI_v, ↓reduceIte, ite_true, ite_false, Int.reduceEq, Int.reduceLT, Int.reduceLE, Int.reduceAdd, Int.reduceSub, Int.reduceMul, Int.reduceNeg, not_true_eq_false, not_false_eq_true, agA hA, agJA hA, ag hA, v_nJ, v_nW, v_nD, v_toD, v_px, v_py, v_rg, v_kd, v_ft, v_on, v_bg, v_en, @nJ_ M0, @nW_ M0, @nD_ M0, @toD_ M0, @px_ M0, @py_ M0, @rg_ M0, @kd_ M0, @ft_ M0, @on_ M0, bt_]
      rw [if_pos (by omega)]
    · rintro ⟨⟨i, i0, i1, -⟩, -⟩; omega
  | succ n ih =>
    intro k M h hA hs
    have hn := h2.1
    have hj := (h2.2.2.2 f f0 f1).1
    have hJ := h1.1
    obtain ⟨hc, -, c3, c4, -⟩ := h3 (bg M0 f) (by omega) (by omega)
    obtain ⟨⟨g0, g1⟩, gb⟩ := c3 k (by omega) (by omega)
    have ek : ((k + 1 : Nat) : Int) = (k : Int) + 1 := by omega
    have hlt : ¬ A M0 17 (bg M0 f) ≤ (k : Int) := by omega
    have hx := xo_r g0 g1
    have hen : en M0 (xo (A M0 16 (bg M0 f * 40 + k))) = bg M0 f := by rw [← bg_xo]; exact gb
    have mt := c_mayTurn (M := M) hF hg h2 hs hx.1 hx.2 f0 f1 hen.symm
    generalize hG : A M0 16 (bg M0 f * 40 + (k : Int)) = G at *
    have exx : ∀ e : Int, (∃ i : Int, (k : Int) ≤ i ∧ i < A M0 17 (bg M0 f) ∧ xo (A M0 16 (bg M0 f * 40 + i)) = e) ↔ (xo G = e ∨ ∃ i : Int, (k : Int) + 1 ≤ i ∧ i < A M0 17 (bg M0 f) ∧ xo (A M0 16 (bg M0 f * 40 + i)) = e) := fun e => by
      have := ex_s (C := fun i => xo (A M0 16 (bg M0 f * 40 + i)) = e) (i := k) (n := A M0 17 (bg M0 f)) (by omega)
      rw [hG] at this
      exact this
    have hno : ¬ ∃ i : Int, (k : Int) + 1 ≤ i ∧ i < A M0 17 (bg M0 f) ∧ xo (A M0 16 (bg M0 f * 40 + i)) = xo G := by
      rintro ⟨i, i0, i1, ei⟩
      have := c4 k i (by omega) (by omega) i1
      rw [hG] at this
      unfold xo at ei
      omega
    have skip : ¬ (may M0 md (xo G) f ∧ v < J M 40 (xo G)) → ∃ M' : am_M, F 97 13 [.ref 32, .int (iI f), .long (jI v), .int (iI (bg M0 f)), .int (iI ((k : Int) + 1))] [] M = some (none, M') ∧ Ke [40] M M' ∧ ∀ e : Int, 0 ≤ e → e < 2 * nW M0 → ((∃ i : Int, (k : Int) ≤ i ∧ i < A M0 17 (bg M0 f) ∧ xo (A M0 16 (bg M0 f * 40 + i)) = e) ∧ may M0 md e f ∧ v < J M 40 e → J M' 40 e = v) ∧ (¬ ((∃ i : Int, (k : Int) ≤ i ∧ i < A M0 17 (bg M0 f) ∧ xo (A M0 16 (bg M0 f * 40 + i)) = e) ∧ may M0 md e f ∧ v < J M 40 e) → J M' 40 e = J M 40 e) := fun hsk => by
      obtain ⟨M', q1, q2, q3⟩ := ih (k + 1) M (by omega) hA hs
      rw [ek] at q1
      refine ⟨M', q1, q2, fun e e0 e1 => ?_⟩
      have q4 := q3 e e0 e1
      rw [ek] at q4
      rw [exx]
      by_cases ee : xo G = e
      · subst ee
        exact ⟨fun x => absurd x.2 hsk, fun _ => q4.2 fun x => hsk x.2⟩
      · simpa only [ee, false_or] using q4
    unfold xo at mt hx
    have exo : G + 1 - 2 * (G % 2) = xo G := rfl
    rw [exo] at mt hx
    by_cases hv : v < J M 40 (xo G)
    · by_cases hm : may M0 md (xo G) f
      · have hK : Ke [40] M (X_ M 40 (xo G) v) := Ke.refl.x (by decide)
        have hs' : fset M0 md (X_ M 40 (xo G) v) := by
          obtain ⟨⟨m1, m2, m3⟩, s1, s2, s3, s4⟩ := hs
          exact ⟨⟨m1, m2, m3⟩, s1, s2, s3, s4⟩
        obtain ⟨M', q1, q2, q3⟩ := ih (k + 1) (X_ M 40 (xo G) v) (by omega) (hA.trans (hK.ag (by decide))) hs'
        rw [ek] at q1
        refine ⟨M', ?_, hK.trans q2, fun e e0 e1 => ?_⟩
        · rw [bI_t hm] at mt
          refine s_Finder_offer_13 hF hg ?_
          have hv2 : ¬ J M 40 (xo G) ≤ v := by omega
          simp (disch := (first | omega | decide | assumption)) only [ltm_s, ok_n, rd_i, rd_j, fd_i, fd_j, wr_i, wr_j, fw_i, fw_j, ci_s, cj_s, cv_s, dv_n, dw_n, rt_1, rt_b, rt_20, rt_21, okb_0, okb_1, okb_b, nar_0, nar_1, nar_b, i_0, i_1, j_0, j_1, i_lit, j_lit, i_n, iI_add, iI_sub, iI_mul, iI_neg, jI_add, jI_sub, jI_mul, jI_neg, sh_1, an_1, xo_1, di_p, dj_p, i_64A, i_64, j_32, lq_ge, lq_lt, lq_le, lq_gt, lq_eq, i_lt, i_le, i_eq, j_eq, iI_A, jI_J, iI_b, iI_v, jI_v, ↓reduceIte, ite_true, ite_false, Int.reduceEq, Int.reduceLT, Int.reduceLE, Int.reduceAdd, Int.reduceSub, Int.reduceMul, Int.reduceNeg, not_true_eq_false, not_false_eq_true, agA hA, agJA hA, ag hA, v_nJ, v_nW, v_nD, v_toD, v_px, v_py, v_rg, v_kd, v_ft, v_on, v_bg, v_en, @nJ_ M0, @nW_ M0, @nD_ M0, @toD_ M0, @px_ M0, @py_ M0, @rg_ M0, @kd_ M0, @ft_ M0, @on_ M0, bt_, hlt, c_outLeg hF hg hA, hG, exo, hv2, mt, q1]
        · have q4 := q3 e e0 e1
          rw [ek] at q4
          rw [exx]
          by_cases ee : xo G = e
          · subst ee
            have q5 := q4.2 fun x => hno x.1
            rw [J_Xs (by omega) (by omega)] at q5
            exact ⟨fun _ => q5, fun x => absurd ⟨Or.inl rfl, hm, hv⟩ x⟩
          · rw [J_Xo (by omega) e0 (fun x => ee x.symm)] at q4
            simpa only [ee, false_or] using q4
      · obtain ⟨M', q1, q2⟩ := skip (fun x => hm x.1)
        rw [bI_f hm] at mt
        refine ⟨M', ?_, q2⟩
        refine s_Finder_offer_13 hF hg ?_
        have hv2 : ¬ J M 40 (xo G) ≤ v := by omega
        simp (disch := (first | omega | decide | assumption)) only [ltm_s, ok_n, rd_i, rd_j, fd_i, fd_j, wr_i, wr_j, fw_i, fw_j, ci_s, cj_s, cv_s, dv_n, dw_n, rt_1, rt_b, rt_20, rt_21, okb_0, okb_1, okb_b, nar_0, nar_1, nar_b, i_0, i_1, j_0, j_1, i_lit, j_lit, i_n, iI_add, iI_sub, iI_mul, iI_neg, jI_add, jI_sub, jI_mul, jI_neg, sh_1, an_1, xo_1, di_p, dj_p, i_64A, i_64, j_32, lq_ge, lq_lt, lq_le, lq_gt, lq_eq, i_lt, i_le, i_eq, j_eq, iI_A, jI_J, iI_b, iI_v, jI_v, ↓reduceIte, ite_true, ite_false, Int.reduceEq, Int.reduceLT, Int.reduceLE, Int.reduceAdd, Int.reduceSub, Int.reduceMul, Int.reduceNeg, not_true_eq_false, not_false_eq_true, agA hA, agJA hA, ag hA, v_nJ, v_nW, v_nD, v_toD, v_px, v_py, v_rg, v_kd, v_ft, v_on, v_bg, v_en, @nJ_ M0, @nW_ M0, @nD_ M0, @toD_ M0, @px_ M0, @py_ M0, @rg_ M0, @kd_ M0, @ft_ M0, @on_ M0, bt_, hlt, c_outLeg hF hg hA, hG, exo, hv2, mt, q1]
    · obtain ⟨M', q1, q2⟩ := skip (fun x => hv x.2)
      refine ⟨M', ?_, q2⟩
      refine s_Finder_offer_13 hF hg ?_
      have hv2 : J M 40 (xo G) ≤ v := by omega
      simp (disch := (first | omega | decide | assumption)) only [ltm_s, ok_n, rd_i, rd_j, fd_i, fd_j, wr_i, wr_j, fw_i, fw_j, ci_s, cj_s, cv_s, dv_n, dw_n, rt_1, rt_b, rt_20, rt_21, okb_0, okb_1, okb_b, nar_0, nar_1, nar_b, i_0, i_1, j_0, j_1, i_lit, j_lit, i_n, iI_add, iI_sub, iI_mul, iI_neg, jI_add, jI_sub, jI_mul, jI_neg, sh_1, an_1, xo_1, di_p, dj_p, i_64A, i_64, j_32, lq_ge, lq_lt, lq_le, lq_gt, lq_eq, i_lt, i_le, i_eq, j_eq, iI_A, jI_J, iI_b, iI_v, jI_v, ↓reduceIte, ite_true, ite_false, Int.reduceEq, Int.reduceLT, Int.reduceLE, Int.reduceAdd, Int.reduceSub, Int.reduceMul, Int.reduceNeg, not_true_eq_false, not_false_eq_true, agA hA, agJA hA, ag hA, v_nJ, v_nW, v_nD, v_toD, v_px, v_py, v_rg, v_kd, v_ft, v_on, v_bg, v_en, @nJ_ M0, @nW_ M0, @nD_ M0, @toD_ M0, @px_ M0, @py_ M0, @rg_ M0, @kd_ M0, @ft_ M0, @on_ M0, bt_, hlt, c_outLeg hF hg hA, hG, exo, hv2, q1]
theorem c_offer (hF : F = am_F T0 g) (hg : GG g) (hA : Ag M0 M) (h1 : I1 M0) (h2 : I2 M0) (h3 : I3 M0) {md : Int × Int × Int × Int} (hs : fset M0 md M) {f v : Int} (f0 : 0 ≤ f) (f1 : f < 2 * nW M0) (v0 : -9223372036854775808 ≤ v) (v1 : v < 9223372036854775808) :
    ∃ M' : am_M, F 97 0 [.ref 32, .int (iI f), .long (jI v)] [] M = some (none, M') ∧ Ke [40] M M' ∧ ∀ e : Int, 0 ≤ e → e < 2 * nW M0 → (may M0 md e f ∧ v < J M 40 e → J M' 40 e = v) ∧ (¬ (may M0 md e f ∧ v < J M 40 e) → J M' 40 e = J M 40 e) := by
  have hn := h2.1
  have hj := (h2.2.2.2 f f0 f1).1
  have hJ := h1.1
  obtain ⟨hc, -, c3, c4, c5⟩ := h3 (bg M0 f) (by omega) (by omega)
  obtain ⟨M', q1, q2, q3⟩ := c_offer_l hF hg h1 h2 h3 (md := md) f0 f1 v0 v1 (A M0 17 (bg M0 f)).toNat 0 M (by omega) hA hs
  have e0 : iI ((0 : Nat) : Int) = iI 0 := rfl
  rw [e0] at q1
  refine ⟨M', ?_, q2, fun e e0 e1 => ?_⟩
  · refine s_Finder_offer hF hg ?_
    simp (disch := (first | omega | decide | assumption)) only [ltm_s, ok_n, rd_i, rd_j, fd_i, fd_j, wr_i, wr_j, fw_i, fw_j, ci_s, cj_s, cv_s, dv_n, dw_n, rt_1, rt_b, rt_20, rt_21, okb_0, okb_1, okb_b, nar_0, nar_1, nar_b, i_0, i_1, j_0, j_1, i_lit, j_lit, i_n, iI_add, iI_sub, iI_mul, iI_neg, jI_add, jI_sub, jI_mul, jI_neg, sh_1, an_1, xo_1, di_p, dj_p, i_64A, i_64, j_32, lq_ge, lq_lt, lq_le, lq_gt, lq_eq, i_lt, i_le, i_eq, j_eq, iI_A, jI_J, iI_b, iI_v, jI_v, ↓reduceIte, ite_true, ite_false, Int.reduceEq, Int.reduceLT, Int.reduceLE, Int.reduceAdd, Int.reduceSub, Int.reduceMul, Int.reduceNeg, not_true_eq_false, not_false_eq_true, agA hA, agJA hA, ag hA, v_nJ, v_nW, v_nD, v_toD, v_px, v_py, v_rg, v_kd, v_ft, v_on, v_bg, v_en, @nJ_ M0, @nW_ M0, @nD_ M0, @toD_ M0, @px_ M0, @py_ M0, @rg_ M0, @kd_ M0, @ft_ M0, @on_ M0, bt_, c_startOf hF hg hA h2, q1]
  · have q4 := q3 e e0 e1
    by_cases hm : may M0 md e f
    · have hx := xo_r e0 e1
      have : bg M0 (xo e) = bg M0 f := by rw [← en_xo]; exact hm.1.1.symm
      obtain ⟨i, i0, i1, ei⟩ := c5 (xo e) hx.1 hx.2 this
      have hex : ∃ i : Int, ((0 : Nat) : Int) ≤ i ∧ i < A M0 17 (bg M0 f) ∧ xo (A M0 16 (bg M0 f * 40 + i)) = e := ⟨i, i0, i1, by rw [ei, xo_xo]⟩
      exact ⟨fun x => q4.1 ⟨hex, x⟩, fun x => q4.2 fun y => x y.2⟩
    · exact ⟨fun x => absurd x.1 hm, fun _ => q4.2 fun y => hm y.2.1⟩
end Sp
