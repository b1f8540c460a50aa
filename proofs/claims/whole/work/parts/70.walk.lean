/-! THE MODEL WALKS along the least -/
theorem ci_in {β : Type} {x : Option am_R} {κ : Int32 → am_M → Option β} {v : Int32} {M : am_M} {r : β} (h : x = some (some (.int v), M)) (h2 : κ v M = some r) : am_ci x κ = some r := by rw [h]; exact h2
section Wk
variable {M0 M M' : am_M} {g : am_G} {F : am_FT}
/-- the labels say: there, or: through there -/
def lkS (M0 : am_M) (a b : Int) (M : am_M) (e f : Int) : Prop := gol M0 b f ∧ offs M0 a b e = J M 262 e ∧ tdr M0 b f = J M 263 e
def lkT (M0 : am_M) (md : Int × Int × Int × Int) (a b : Int) (M : am_M) (e f : Int) : Prop := ¬ 1000000000000 ≤ J M 262 f ∧ J M 262 f + offs M0 a b e = J M 262 e ∧ J M 263 f + prc M0 (f / 2) md.2.2.1 = J M 263 e
theorem lk_iff (h1 : I1 M0) (h2 : I2 M0) (h4 : I4 M0) {md : Int × Int × Int × Int} {by_ a b : Int} {C : Int → Int} (u0 : 0 ≤ md.2.2.1) (u1 : md.2.2.1 < 24) (a0 : 0 ≤ a) (a1 : a < nD M0) (b0 : 0 ≤ b) (b1 : b < nD M0) (hL : Lbs M0 md by_ a b C M) {e f : Int} (e0 : 0 ≤ e) (e1 : e < 2 * nW M0) (he : C e ≠ FARC) (f0 : 0 ≤ f) (f1 : f < 2 * nW M0) :
    (lkS M0 a b M e f ↔ gol M0 b f ∧ C e = gkk M0 by_ b f) ∧ (lkT M0 md a b M e f ↔ C f ≠ FARC ∧ C e = C f + wkk M0 by_ a b md.2.2.1 f) := by
  have le := (hL.2.2.2 e e0 e1)
  have lf := (hL.2.2.2 f f0 f1)
  have hof : 0 ≤ offs M0 a b f ∧ offs M0 a b f ≤ 20000 := strg_r h1 h2 h4 a0 a1 b0 b1 (en_r h2 f0 f1).1 (en_r h2 f0 f1).2
  have hpr := prc_r h2 (w := f / 2) (by omega) (by omega) u0 u1
  have rtd := tdr_r h2 h4 (b := b) (f := f) b0 b1
  have le := le.resolve_left (fun x => he x.2.2)
  obtain ⟨x1, x2, x3, x4⟩ := le
  constructor
  · unfold lkS
    rw [x4]
    have := key_inj (b := by_) (t := J M 262 e - offs M0 a b e) (m := J M 263 e) (u := 0) (o := tdr M0 b f) (by omega) (by omega) (by omega) (by omega) (by omega) (by omega) (by omega) (by omega)
    have eg : gkk M0 by_ b f = key by_ 0 (tdr M0 b f) := rfl
    rw [eg, this]
    constructor
    · rintro ⟨y1, y2, y3⟩; exact ⟨y1, by omega, by omega⟩
    · rintro ⟨y1, y2, y3⟩; exact ⟨y1, by omega, by omega⟩
  · unfold lkT
    rcases lf with y | y
    · constructor
      · rintro ⟨z, -⟩; omega
      · rintro ⟨z, -⟩; exact absurd y.2.2 z
    · obtain ⟨y1, y2, y3, y4⟩ := y
      have ew : wkk M0 by_ a b md.2.2.1 f = key by_ (offs M0 a b f) (prc M0 (f / 2) md.2.2.1) := rfl
      have := key_inj (b := by_) (t := J M 262 e - offs M0 a b e) (m := J M 263 e) (u := J M 262 f - offs M0 a b f + offs M0 a b f) (o := J M 263 f + prc M0 (f / 2) md.2.2.1) (by omega) (by omega) (by omega) (by omega) (by omega) (by omega) (by omega) (by omega)
      rw [x4, ew]
      constructor
      · rintro ⟨z1, z2, z3⟩
        refine ⟨y3, ?_⟩
        rw [y4, key_add]
        exact this.mpr ⟨by omega, by omega⟩
      · rintro ⟨-, z⟩
        rw [y4, key_add] at z
        have := this.mp z
        omega
/-- a look at one leg -/
theorem m_look (hF : F = am_F T0 g) (hg : GG g) (h1 : I1 M0) (h2 : I2 M0) (h4 : I4 M0) (h6 : I6 M0) (h7 : I7 M0) (h8 : I8 M0) (h9 : I9 M0) {md : Int × Int × Int × Int} (hmd : mok M0 md) {by_ a b : Int} {C : Int → Int} (a0 : 0 ≤ a) (a1 : a < nD M0) (b0 : 0 ≤ b) (b1 : b < nD M0) (hL : Lbs M0 md by_ a b C M) {e f : Int} (e0 : 0 ≤ e) (e1 : e < 2 * nW M0) (f0 : 0 ≤ f) (f1 : f < 2 * nW M0) {r : am_R} :
    (¬ may M0 md e f → F 260 337 [.ref 219, .int (iI b), .int (iI 0), .int (iI e), .int (iI (f + 1)), .int (iI 0)] [] M = some r → F 260 337 [.ref 219, .int (iI b), .int (iI 0), .int (iI e), .int (iI f), .int (iI 0)] [] M = some r) ∧
    (may M0 md e f → F 260 337 [.ref 219, .int (iI b), .int (iI (bI (lkS M0 a b M e f))), .int (iI e), .int (iI (f + 1)), .int (iI (bI (lkT M0 md a b M e f)))] [] M = some r → F 260 337 [.ref 219, .int (iI b), .int (iI 0), .int (iI e), .int (iI f), .int (iI 0)] [] M = some r) := by
  have hn := h2.1
  have hd := h4.1
  obtain ⟨hA, hss, hO, hlb⟩ := hL
  obtain ⟨hmd1, hmd2, u0, u1⟩ := hmd
  have hm2 : mok M0 md := ⟨hmd1, hmd2, u0, u1⟩
  have wb := (h4.2.2 b b0 b1).1
  have mt := m_mayTurn hF hg hA h1 h2 h6 h7 h8 h9 hss.1 hm2 e0 e1 f0 f1
  have s58 := hss.1.2.2
  have mo := m_off hF hg hA h1 h2 hss.2.1 e0 e1
  rw [hO] at mo
  have mp := m_priceOf hF hg hA h2 (w := f / 2) (by omega) (by omega) u0 u1
  have rtd := tdr_r h2 h4 (b := b) (f := f) b0 b1
  have hpr := prc_r h2 (w := f / 2) (by omega) (by omega) u0 u1
  have hoe : 0 ≤ offs M0 a b e ∧ offs M0 a b e ≤ 20000 := strg_r h1 h2 h4 a0 a1 b0 b1 (en_r h2 e0 e1).1 (en_r h2 e0 e1).2
  have lf := hlb f f0 f1
  have le := hlb e e0 e1
  have hof : 0 ≤ offs M0 a b f ∧ offs M0 a b f ≤ 20000 := strg_r h1 h2 h4 a0 a1 b0 b1 (en_r h2 f0 f1).1 (en_r h2 f0 f1).2
  have rf : (0 ≤ J M 262 f ∧ J M 262 f ≤ 1000000000000) ∧ 0 ≤ J M 263 f ∧ J M 263 f ≤ 1000000000000 := by omega
  refine ⟨fun hm hr => ?_, fun hm hr => ?_⟩
  · rw [bI_f hm] at mt
    refine s_Model_search_337 hF hg ?_
    rw [if_pos (show iI 0 = 0 from rfl), if_pos (show iI 0 = 0 from rfl)]
    refine ci_in mt ?_
    rw [if_pos (show iI 0 = 0 from rfl)]
    simp (config := { maxSteps := 1000000 }) (disch := (first | omega | decide | assumption)) only [ltm_s, ok_n, rd_i, rd_j, fd_i, fd_j, wr_i, wr_j, fw_i, fw_j, ci_s, cj_s, cv_s, dv_n, dw_n, rt_1, rt_b, rt_20, rt_21, okb_0, okb_1, okb_b, nar_0, nar_1, nar_b, i_0, i_1, j_0, j_1, i_lit, j_lit, i_n, iI_add, iI_sub, iI_mul, iI_neg, jI_add, jI_sub, jI_mul, jI_neg, sh_1, an_1, xo_1, di_p, dj_p, i_64A, i_64, j_32, lq_ge, lq_lt, lq_le, lq_gt, lq_eq, i_lt, i_le, i_eq, j_eq, iI_A, jI_J, iI_b, iI_v, jI_v, ↓reduceIte, ite_true, ite_false, Int.reduceEq, Int.reduceLT, Int.reduceLE, Int.reduceAdd, Int.reduceSub, Int.reduceMul, Int.reduceNeg, not_true_eq_false, not_false_eq_true, agA hA, agJA hA, ag hA, v_nJ, v_nW, v_nD, v_toD, v_px, v_py, v_rg, v_kd, v_ft, v_on, v_bg, v_en, @nJ_ M0, @nW_ M0, @nD_ M0, @toD_ M0, @px_ M0, @py_ M0, @rg_ M0, @kd_ M0, @ft_ M0, @on_ M0, bt_, hr]
  · rw [bI_t hm] at mt
    by_cases q : f / 2 = A M0 228 b
    · have q' : (f / 2 = A M0 228 b) = True := eq_true q
      have td := m_toDoor hF hg hA h2 h4 (b := b) (f := f) b0 b1 f0 f1 q
      by_cases o : offs M0 a b e = J M 262 e
      · have o' : (offs M0 a b e = J M 262 e) = True := eq_true o
        by_cases d : tdr M0 b f = J M 263 e
        · have d' : (tdr M0 b f = J M 263 e) = True := eq_true d
          rw [bI_t (P := lkS M0 a b M e f) ⟨q, o, d⟩] at hr
          by_cases x : 1000000000000 ≤ J M 262 f
          · rw [bI_f (P := lkT M0 md a b M e f) (fun y => y.1 x)] at hr
            refine s_Model_search_337 hF hg ?_
            rw [if_pos (show iI 0 = 0 from rfl), if_pos (show iI 0 = 0 from rfl)]
            refine ci_in mt ?_
            rw [if_neg (show ¬ iI 1 = 0 by decide)]
            simp (config := { maxSteps := 1000000 }) (disch := (first | omega | decide | assumption)) only [ltm_s, ok_n, rd_i, rd_j, fd_i, fd_j, wr_i, wr_j, fw_i, fw_j, ci_s, cj_s, cv_s, dv_n, dw_n, rt_1, rt_b, rt_20, rt_21, okb_0, okb_1, okb_b, nar_0, nar_1, nar_b, i_0, i_1, j_0, j_1, i_lit, j_lit, i_n, iI_add, iI_sub, iI_mul, iI_neg, jI_add, jI_sub, jI_mul, jI_neg, sh_1, an_1, xo_1, di_p, dj_p, i_64A, i_64, j_32, lq_ge, lq_lt, lq_le, lq_gt, lq_eq, i_lt, i_le, i_eq, j_eq, iI_A, jI_J, iI_b, iI_v, jI_v, ↓reduceIte, ite_true, ite_false, Int.reduceEq, Int.reduceLT, Int.reduceLE, Int.reduceAdd, Int.reduceSub, Int.reduceMul, Int.reduceNeg, not_true_eq_false, not_false_eq_true, agA hA, agJA hA, ag hA, v_nJ, v_nW, v_nD, v_toD, v_px, v_py, v_rg, v_kd, v_ft, v_on, v_bg, v_en, @nJ_ M0, @nW_ M0, @nD_ M0, @toD_ M0, @px_ M0, @py_ M0, @rg_ M0, @kd_ M0, @ft_ M0, @on_ M0, bt_, q', mo, o', td, d', x, hr]
          · by_cases y : J M 262 f + offs M0 a b e = J M 262 e
            · have y' : (J M 262 f + offs M0 a b e = J M 262 e) = True := eq_true y
              by_cases z : J M 263 f + prc M0 (f / 2) md.2.2.1 = J M 263 e
              · have z' : (J M 263 f + prc M0 (f / 2) md.2.2.1 = J M 263 e) = True := eq_true z
                rw [bI_t (P := lkT M0 md a b M e f) ⟨x, y, z⟩] at hr
                refine s_Model_search_337 hF hg ?_
                rw [if_pos (show iI 0 = 0 from rfl), if_pos (show iI 0 = 0 from rfl)]
                refine ci_in mt ?_
                rw [if_neg (show ¬ iI 1 = 0 by decide)]
                simp (config := { maxSteps := 1000000 }) (disch := (first | omega | decide | assumption)) only [ltm_s, ok_n, rd_i, rd_j, fd_i, fd_j, wr_i, wr_j, fw_i, fw_j, ci_s, cj_s, cv_s, dv_n, dw_n, rt_1, rt_b, rt_20, rt_21, okb_0, okb_1, okb_b, nar_0, nar_1, nar_b, i_0, i_1, j_0, j_1, i_lit, j_lit, i_n, iI_add, iI_sub, iI_mul, iI_neg, jI_add, jI_sub, jI_mul, jI_neg, sh_1, an_1, xo_1, di_p, dj_p, i_64A, i_64, j_32, lq_ge, lq_lt, lq_le, lq_gt, lq_eq, i_lt, i_le, i_eq, j_eq, iI_A, jI_J, iI_b, iI_v, jI_v, ↓reduceIte, ite_true, ite_false, Int.reduceEq, Int.reduceLT, Int.reduceLE, Int.reduceAdd, Int.reduceSub, Int.reduceMul, Int.reduceNeg, not_true_eq_false, not_false_eq_true, agA hA, agJA hA, ag hA, v_nJ, v_nW, v_nD, v_toD, v_px, v_py, v_rg, v_kd, v_ft, v_on, v_bg, v_en, @nJ_ M0, @nW_ M0, @nD_ M0, @toD_ M0, @px_ M0, @py_ M0, @rg_ M0, @kd_ M0, @ft_ M0, @on_ M0, bt_, q', mo, o', td, d', x, y', s58, mp, z', hr]
              · rw [bI_f (P := lkT M0 md a b M e f) (fun w => z w.2.2)] at hr
                refine s_Model_search_337 hF hg ?_
                rw [if_pos (show iI 0 = 0 from rfl), if_pos (show iI 0 = 0 from rfl)]
                refine ci_in mt ?_
                rw [if_neg (show ¬ iI 1 = 0 by decide)]
                simp (config := { maxSteps := 1000000 }) (disch := (first | omega | decide | assumption)) only [ltm_s, ok_n, rd_i, rd_j, fd_i, fd_j, wr_i, wr_j, fw_i, fw_j, ci_s, cj_s, cv_s, dv_n, dw_n, rt_1, rt_b, rt_20, rt_21, okb_0, okb_1, okb_b, nar_0, nar_1, nar_b, i_0, i_1, j_0, j_1, i_lit, j_lit, i_n, iI_add, iI_sub, iI_mul, iI_neg, jI_add, jI_sub, jI_mul, jI_neg, sh_1, an_1, xo_1, di_p, dj_p, i_64A, i_64, j_32, lq_ge, lq_lt, lq_le, lq_gt, lq_eq, i_lt, i_le, i_eq, j_eq, iI_A, jI_J, iI_b, iI_v, jI_v, ↓reduceIte, ite_true, ite_false, Int.reduceEq, Int.reduceLT, Int.reduceLE, Int.reduceAdd, Int.reduceSub, Int.reduceMul, Int.reduceNeg, not_true_eq_false, not_false_eq_true, agA hA, agJA hA, ag hA, v_nJ, v_nW, v_nD, v_toD, v_px, v_py, v_rg, v_kd, v_ft, v_on, v_bg, v_en, @nJ_ M0, @nW_ M0, @nD_ M0, @toD_ M0, @px_ M0, @py_ M0, @rg_ M0, @kd_ M0, @ft_ M0, @on_ M0, bt_, q', mo, o', td, d', x, y', s58, mp, z, hr]
            · rw [bI_f (P := lkT M0 md a b M e f) (fun w => y w.2.1)] at hr
              refine s_Model_search_337 hF hg ?_
              rw [if_pos (show iI 0 = 0 from rfl), if_pos (show iI 0 = 0 from rfl)]
              refine ci_in mt ?_
              rw [if_neg (show ¬ iI 1 = 0 by decide)]
              simp (config := { maxSteps := 1000000 }) (disch := (first | omega | decide | assumption)) only [ltm_s, ok_n, rd_i, rd_j, fd_i, fd_j, wr_i, wr_j, fw_i, fw_j, ci_s, cj_s, cv_s, dv_n, dw_n, rt_1, rt_b, rt_20, rt_21, okb_0, okb_1, okb_b, nar_0, nar_1, nar_b, i_0, i_1, j_0, j_1, i_lit, j_lit, i_n, iI_add, iI_sub, iI_mul, iI_neg, jI_add, jI_sub, jI_mul, jI_neg, sh_1, an_1, xo_1, di_p, dj_p, i_64A, i_64, j_32, lq_ge, lq_lt, lq_le, lq_gt, lq_eq, i_lt, i_le, i_eq, j_eq, iI_A, jI_J, iI_b, iI_v, jI_v, ↓reduceIte, ite_true, ite_false, Int.reduceEq, Int.reduceLT, Int.reduceLE, Int.reduceAdd, Int.reduceSub, Int.reduceMul, Int.reduceNeg, not_true_eq_false, not_false_eq_true, agA hA, agJA hA, ag hA, v_nJ, v_nW, v_nD, v_toD, v_px, v_py, v_rg, v_kd, v_ft, v_on, v_bg, v_en, @nJ_ M0, @nW_ M0, @nD_ M0, @toD_ M0, @px_ M0, @py_ M0, @rg_ M0, @kd_ M0, @ft_ M0, @on_ M0, bt_, q', mo, o', td, d', x, y, hr]
        · rw [bI_f (P := lkS M0 a b M e f) (fun w => d w.2.2)] at hr
          by_cases x : 1000000000000 ≤ J M 262 f
          · rw [bI_f (P := lkT M0 md a b M e f) (fun y => y.1 x)] at hr
            refine s_Model_search_337 hF hg ?_
            rw [if_pos (show iI 0 = 0 from rfl), if_pos (show iI 0 = 0 from rfl)]
            refine ci_in mt ?_
            rw [if_neg (show ¬ iI 1 = 0 by decide)]
            simp (config := { maxSteps := 1000000 }) (disch := (first | omega | decide | assumption)) only [ltm_s, ok_n, rd_i, rd_j, fd_i, fd_j, wr_i, wr_j, fw_i, fw_j, ci_s, cj_s, cv_s, dv_n, dw_n, rt_1, rt_b, rt_20, rt_21, okb_0, okb_1, okb_b, nar_0, nar_1, nar_b, i_0, i_1, j_0, j_1, i_lit, j_lit, i_n, iI_add, iI_sub, iI_mul, iI_neg, jI_add, jI_sub, jI_mul, jI_neg, sh_1, an_1, xo_1, di_p, dj_p, i_64A, i_64, j_32, lq_ge, lq_lt, lq_le, lq_gt, lq_eq, i_lt, i_le, i_eq, j_eq, iI_A, jI_J, iI_b, iI_v, jI_v, ↓reduceIte, ite_true, ite_false, Int.reduceEq, Int.reduceLT, Int.reduceLE, Int.reduceAdd, Int.reduceSub, Int.reduceMul, Int.reduceNeg, not_true_eq_false, not_false_eq_true, agA hA, agJA hA, ag hA, v_nJ, v_nW, v_nD, v_toD, v_px, v_py, v_rg, v_kd, v_ft, v_on, v_bg, v_en, @nJ_ M0, @nW_ M0, @nD_ M0, @toD_ M0, @px_ M0, @py_ M0, @rg_ M0, @kd_ M0, @ft_ M0, @on_ M0, bt_, q', mo, o', td, d, x, hr]
          · by_cases y : J M 262 f + offs M0 a b e = J M 262 e
            · have y' : (J M 262 f + offs M0 a b e = J M 262 e) = True := eq_true y
              by_cases z : J M 263 f + prc M0 (f / 2) md.2.2.1 = J M 263 e
              · have z' : (J M 263 f + prc M0 (f / 2) md.2.2.1 = J M 263 e) = True := eq_true z
                rw [bI_t (P := lkT M0 md a b M e f) ⟨x, y, z⟩] at hr
                refine s_Model_search_337 hF hg ?_
                rw [if_pos (show iI 0 = 0 from rfl), if_pos (show iI 0 = 0 from rfl)]
                refine ci_in mt ?_
                rw [if_neg (show ¬ iI 1 = 0 by decide)]
                simp (config := { maxSteps := 1000000 }) (disch := (first | omega | decide | assumption)) only [ltm_s, ok_n, rd_i, rd_j, fd_i, fd_j, wr_i, wr_j, fw_i, fw_j, ci_s, cj_s, cv_s, dv_n, dw_n, rt_1, rt_b, rt_20, rt_21, okb_0, okb_1, okb_b, nar_0, nar_1, nar_b, i_0, i_1, j_0, j_1, i_lit, j_lit, i_n, iI_add, iI_sub, iI_mul, iI_neg, jI_add, jI_sub, jI_mul, jI_neg, sh_1, an_1, xo_1, di_p, dj_p, i_64A, i_64, j_32, lq_ge, lq_lt, lq_le, lq_gt, lq_eq, i_lt, i_le, i_eq, j_eq, iI_A, jI_J, iI_b, iI_v, jI_v, ↓reduceIte, ite_true, ite_false, Int.reduceEq, Int.reduceLT, Int.reduceLE, Int.reduceAdd, Int.reduceSub, Int.reduceMul, Int.reduceNeg, not_true_eq_false, not_false_eq_true, agA hA, agJA hA, ag hA, v_nJ, v_nW, v_nD, v_toD, v_px, v_py, v_rg, v_kd, v_ft, v_on, v_bg, v_en, @nJ_ M0, @nW_ M0, @nD_ M0, @toD_ M0, @px_ M0, @py_ M0, @rg_ M0, @kd_ M0, @ft_ M0, @on_ M0, bt_, q', mo, o', td, d, x, y', s58, mp, z', hr]
              · rw [bI_f (P := lkT M0 md a b M e f) (fun w => z w.2.2)] at hr
                refine s_Model_search_337 hF hg ?_
                rw [if_pos (show iI 0 = 0 from rfl), if_pos (show iI 0 = 0 from rfl)]
                refine ci_in mt ?_
                rw [if_neg (show ¬ iI 1 = 0 by decide)]
                simp (config := { maxSteps := 1000000 }) (disch := (first | omega | decide | assumption)) only [ltm_s, ok_n, rd_i, rd_j, fd_i, fd_j, wr_i, wr_j, fw_i, fw_j, ci_s, cj_s, cv_s, dv_n, dw_n, rt_1, rt_b, rt_20, rt_21, okb_0, okb_1, okb_b, nar_0, nar_1, nar_b, i_0, i_1, j_0, j_1, i_lit, j_lit, i_n, iI_add, iI_sub, iI_mul, iI_neg, jI_add, jI_sub, jI_mul, jI_neg, sh_1, an_1, xo_1, di_p, dj_p, i_64A, i_64, j_32, lq_ge, lq_lt, lq_le, lq_gt, lq_eq, i_lt, i_le, i_eq, j_eq, iI_A, jI_J, iI_b, iI_v, jI_v, ↓reduceIte, ite_true, ite_false, Int.reduceEq, Int.reduceLT, Int.reduceLE, Int.reduceAdd, Int.reduceSub, Int.reduceMul, Int.reduceNeg, not_true_eq_false, not_false_eq_true, agA hA, agJA hA, ag hA, v_nJ, v_nW, v_nD, v_toD, v_px, v_py, v_rg, v_kd, v_ft, v_on, v_bg, v_en, @nJ_ M0, @nW_ M0, @nD_ M0, @toD_ M0, @px_ M0, @py_ M0, @rg_ M0, @kd_ M0, @ft_ M0, @on_ M0, bt_, q', mo, o', td, d, x, y', s58, mp, z, hr]
            · rw [bI_f (P := lkT M0 md a b M e f) (fun w => y w.2.1)] at hr
              refine s_Model_search_337 hF hg ?_
              rw [if_pos (show iI 0 = 0 from rfl), if_pos (show iI 0 = 0 from rfl)]
              refine ci_in mt ?_
              rw [if_neg (show ¬ iI 1 = 0 by decide)]
              simp (config := { maxSteps := 1000000 }) (disch := (first | omega | decide | assumption)) only [ltm_s, ok_n, rd_i, rd_j, fd_i, fd_j, wr_i, wr_j, fw_i, fw_j, ci_s, cj_s, cv_s, dv_n, dw_n, rt_1, rt_b, rt_20, rt_21, okb_0, okb_1, okb_b, nar_0, nar_1, nar_b, i_0, i_1, j_0, j_1, i_lit, j_lit, i_n, iI_add, iI_sub, iI_mul, iI_neg, jI_add, jI_sub, jI_mul, jI_neg, sh_1, an_1, xo_1, di_p, dj_p, i_64A, i_64, j_32, lq_ge, lq_lt, lq_le, lq_gt, lq_eq, i_lt, i_le, i_eq, j_eq, iI_A, jI_J, iI_b, iI_v, jI_v, ↓reduceIte, ite_true, ite_false, Int.reduceEq, Int.reduceLT, Int.reduceLE, Int.reduceAdd, Int.reduceSub, Int.reduceMul, Int.reduceNeg, not_true_eq_false, not_false_eq_true, agA hA, agJA hA, ag hA, v_nJ, v_nW, v_nD, v_toD, v_px, v_py, v_rg, v_kd, v_ft, v_on, v_bg, v_en, @nJ_ M0, @nW_ M0, @nD_ M0, @toD_ M0, @px_ M0, @py_ M0, @rg_ M0, @kd_ M0, @ft_ M0, @on_ M0, bt_, q', mo, o', td, d, x, y, hr]
      · rw [bI_f (P := lkS M0 a b M e f) (fun w => o w.2.1)] at hr
        by_cases x : 1000000000000 ≤ J M 262 f
        · rw [bI_f (P := lkT M0 md a b M e f) (fun y => y.1 x)] at hr
          refine s_Model_search_337 hF hg ?_
          rw [if_pos (show iI 0 = 0 from rfl), if_pos (show iI 0 = 0 from rfl)]
          refine ci_in mt ?_
          rw [if_neg (show ¬ iI 1 = 0 by decide)]
          simp (config := { maxSteps := 1000000 }) (disch := (first | omega | decide | assumption)) only [ltm_s, ok_n, rd_i, rd_j, fd_i, fd_j, wr_i, wr_j, fw_i, fw_j, ci_s, cj_s, cv_s, dv_n, dw_n, rt_1, rt_b, rt_20, rt_21, okb_0, okb_1, okb_b, nar_0, nar_1, nar_b, i_0, i_1, j_0, j_1, i_lit, j_lit, i_n, iI_add, iI_sub, iI_mul, iI_neg, jI_add, jI_sub, jI_mul, jI_neg, sh_1, an_1, xo_1, di_p, dj_p, i_64A, i_64, j_32, lq_ge, lq_lt, lq_le, lq_gt, lq_eq, i_lt, i_le, i_eq, j_eq, iI_A, jI_J, iI_b, iI_v, jI_v, ↓reduceIte, ite_true, ite_false, Int.reduceEq, Int.reduceLT, Int.reduceLE, Int.reduceAdd, Int.reduceSub, Int.reduceMul, Int.reduceNeg, not_true_eq_false, not_false_eq_true, agA hA, agJA hA, ag hA, v_nJ, v_nW, v_nD, v_toD, v_px, v_py, v_rg, v_kd, v_ft, v_on, v_bg, v_en, @nJ_ M0, @nW_ M0, @nD_ M0, @toD_ M0, @px_ M0, @py_ M0, @rg_ M0, @kd_ M0, @ft_ M0, @on_ M0, bt_, q', mo, o, x, hr]
        · by_cases y : J M 262 f + offs M0 a b e = J M 262 e
          · have y' : (J M 262 f + offs M0 a b e = J M 262 e) = True := eq_true y
            by_cases z : J M 263 f + prc M0 (f / 2) md.2.2.1 = J M 263 e
            · have z' : (J M 263 f + prc M0 (f / 2) md.2.2.1 = J M 263 e) = True := eq_true z
              rw [bI_t (P := lkT M0 md a b M e f) ⟨x, y, z⟩] at hr
              refine s_Model_search_337 hF hg ?_
              rw [if_pos (show iI 0 = 0 from rfl), if_pos (show iI 0 = 0 from rfl)]
              refine ci_in mt ?_
              rw [if_neg (show ¬ iI 1 = 0 by decide)]
              simp (config := { maxSteps := 1000000 }) (disch := (first | omega | decide | assumption)) only [ltm_s, ok_n, rd_i, rd_j, fd_i, fd_j, wr_i, wr_j, fw_i, fw_j, ci_s, cj_s, cv_s, dv_n, dw_n, rt_1, rt_b, rt_20, rt_21, okb_0, okb_1, okb_b, nar_0, nar_1, nar_b, i_0, i_1, j_0, j_1, i_lit, j_lit, i_n, iI_add, iI_sub, iI_mul, iI_neg, jI_add, jI_sub, jI_mul, jI_neg, sh_1, an_1, xo_1, di_p, dj_p, i_64A, i_64, j_32, lq_ge, lq_lt, lq_le, lq_gt, lq_eq, i_lt, i_le, i_eq, j_eq, iI_A, jI_J, iI_b, iI_v, jI_v, ↓reduceIte, ite_true, ite_false, Int.reduceEq, Int.reduceLT, Int.reduceLE, Int.reduceAdd, Int.reduceSub, Int.reduceMul, Int.reduceNeg, not_true_eq_false, not_false_eq_true, agA hA, agJA hA, ag hA, v_nJ, v_nW, v_nD, v_toD, v_px, v_py, v_rg, v_kd, v_ft, v_on, v_bg, v_en, @nJ_ M0, @nW_ M0, @nD_ M0, @toD_ M0, @px_ M0, @py_ M0, @rg_ M0, @kd_ M0, @ft_ M0, @on_ M0, bt_, q', mo, o, x, y', s58, mp, z', hr]
            · rw [bI_f (P := lkT M0 md a b M e f) (fun w => z w.2.2)] at hr
              refine s_Model_search_337 hF hg ?_
              rw [if_pos (show iI 0 = 0 from rfl), if_pos (show iI 0 = 0 from rfl)]
              refine ci_in mt ?_
              rw [if_neg (show ¬ iI 1 = 0 by decide)]
              simp (config := { maxSteps := 1000000 }) (disch := (first | omega | decide | assumption)) only [ltm_s, ok_n, rd_i, rd_j, fd_i, fd_j, wr_i, wr_j, fw_i, fw_j, ci_s, cj_s, cv_s, dv_n, dw_n, rt_1, rt_b, rt_20, rt_21, okb_0, okb_1, okb_b, nar_0, nar_1, nar_b, i_0, i_1, j_0, j_1, i_lit, j_lit, i_n, iI_add, iI_sub, iI_mul, iI_neg, jI_add, jI_sub, jI_mul, jI_neg, sh_1, an_1, xo_1, di_p, dj_p, i_64A, i_64, j_32, lq_ge, lq_lt, lq_le, lq_gt, lq_eq, i_lt, i_le, i_eq, j_eq, iI_A, jI_J, iI_b, iI_v, jI_v, ↓reduceIte, ite_true, ite_false, Int.reduceEq, Int.reduceLT, Int.reduceLE, Int.reduceAdd, Int.reduceSub, Int.reduceMul, Int.reduceNeg, not_true_eq_false, not_false_eq_true, agA hA, agJA hA, ag hA, v_nJ, v_nW, v_nD, v_toD, v_px, v_py, v_rg, v_kd, v_ft, v_on, v_bg, v_en, @nJ_ M0, @nW_ M0, @nD_ M0, @toD_ M0, @px_ M0, @py_ M0, @rg_ M0, @kd_ M0, @ft_ M0, @on_ M0, bt_, q', mo, o, x, y', s58, mp, z, hr]
          · rw [bI_f (P := lkT M0 md a b M e f) (fun w => y w.2.1)] at hr
            refine s_Model_search_337 hF hg ?_
            rw [if_pos (show iI 0 = 0 from rfl), if_pos (show iI 0 = 0 from rfl)]
            refine ci_in mt ?_
            rw [if_neg (show ¬ iI 1 = 0 by decide)]
            simp (config := { maxSteps := 1000000 }) (disch := (first | omega | decide | assumption)) only [ltm_s, ok_n, rd_i, rd_j, fd_i, fd_j, wr_i, wr_j, fw_i, fw_j, ci_s, cj_s, cv_s, dv_n, dw_n, rt_1, rt_b, rt_20, rt_21, okb_0, okb_1, okb_b, nar_0, nar_1, nar_b, i_0, i_1, j_0, j_1, i_lit, j_lit, i_n, iI_add, iI_sub, iI_mul, iI_neg, jI_add, jI_sub, jI_mul, jI_neg, sh_1, an_1, xo_1, di_p, dj_p, i_64A, i_64, j_32, lq_ge, lq_lt, lq_le, lq_gt, lq_eq, i_lt, i_le, i_eq, j_eq, iI_A, jI_J, iI_b, iI_v, jI_v, ↓reduceIte, ite_true, ite_false, Int.reduceEq, Int.reduceLT, Int.reduceLE, Int.reduceAdd, Int.reduceSub, Int.reduceMul, Int.reduceNeg, not_true_eq_false, not_false_eq_true, agA hA, agJA hA, ag hA, v_nJ, v_nW, v_nD, v_toD, v_px, v_py, v_rg, v_kd, v_ft, v_on, v_bg, v_en, @nJ_ M0, @nW_ M0, @nD_ M0, @toD_ M0, @px_ M0, @py_ M0, @rg_ M0, @kd_ M0, @ft_ M0, @on_ M0, bt_, q', mo, o, x, y, hr]
    · rw [bI_f (P := lkS M0 a b M e f) (fun w => q w.1)] at hr
      by_cases x : 1000000000000 ≤ J M 262 f
      · rw [bI_f (P := lkT M0 md a b M e f) (fun y => y.1 x)] at hr
        refine s_Model_search_337 hF hg ?_
        rw [if_pos (show iI 0 = 0 from rfl), if_pos (show iI 0 = 0 from rfl)]
        refine ci_in mt ?_
        rw [if_neg (show ¬ iI 1 = 0 by decide)]
        simp (config := { maxSteps := 1000000 }) (disch := (first | omega | decide | assumption)) only [ltm_s, ok_n, rd_i, rd_j, fd_i, fd_j, wr_i, wr_j, fw_i, fw_j, ci_s, cj_s, cv_s, dv_n, dw_n, rt_1, rt_b, rt_20, rt_21, okb_0, okb_1, okb_b, nar_0, nar_1, nar_b, i_0, i_1, j_0, j_1, i_lit, j_lit, i_n, iI_add, iI_sub, iI_mul, iI_neg, jI_add, jI_sub, jI_mul, jI_neg, sh_1, an_1, xo_1, di_p, dj_p, i_64A, i_64, j_32, lq_ge, lq_lt, lq_le, lq_gt, lq_eq, i_lt, i_le, i_eq, j_eq, iI_A, jI_J, iI_b, iI_v, jI_v, ↓reduceIte, ite_true, ite_false, Int.reduceEq, Int.reduceLT, Int.reduceLE, Int.reduceAdd, Int.reduceSub, Int.reduceMul, Int.reduceNeg, not_true_eq_false, not_false_eq_true, agA hA, agJA hA, ag hA, v_nJ, v_nW, v_nD, v_toD, v_px, v_py, v_rg, v_kd, v_ft, v_on, v_bg, v_en, @nJ_ M0, @nW_ M0, @nD_ M0, @toD_ M0, @px_ M0, @py_ M0, @rg_ M0, @kd_ M0, @ft_ M0, @on_ M0, bt_, q, x, hr]
      · by_cases y : J M 262 f + offs M0 a b e = J M 262 e
        · have y' : (J M 262 f + offs M0 a b e = J M 262 e) = True := eq_true y
          by_cases z : J M 263 f + prc M0 (f / 2) md.2.2.1 = J M 263 e
          · have z' : (J M 263 f + prc M0 (f / 2) md.2.2.1 = J M 263 e) = True := eq_true z
            rw [bI_t (P := lkT M0 md a b M e f) ⟨x, y, z⟩] at hr
            refine s_Model_search_337 hF hg ?_
            rw [if_pos (show iI 0 = 0 from rfl), if_pos (show iI 0 = 0 from rfl)]
            refine ci_in mt ?_
            rw [if_neg (show ¬ iI 1 = 0 by decide)]
            simp (config := { maxSteps := 1000000 }) (disch := (first | omega | decide | assumption)) only [ltm_s, ok_n, rd_i, rd_j, fd_i, fd_j, wr_i, wr_j, fw_i, fw_j, ci_s, cj_s, cv_s, dv_n, dw_n, rt_1, rt_b, rt_20, rt_21, okb_0, okb_1, okb_b, nar_0, nar_1, nar_b, i_0, i_1, j_0, j_1, i_lit, j_lit, i_n, iI_add, iI_sub, iI_mul, iI_neg, jI_add, jI_sub, jI_mul, jI_neg, sh_1, an_1, xo_1, di_p, dj_p, i_64A, i_64, j_32, lq_ge, lq_lt, lq_le, lq_gt, lq_eq, i_lt, i_le, i_eq, j_eq, iI_A, jI_J, iI_b, iI_v, jI_v, ↓reduceIte, ite_true, ite_false, Int.reduceEq, Int.reduceLT, Int.reduceLE, Int.reduceAdd, Int.reduceSub, Int.reduceMul, Int.reduceNeg, not_true_eq_false, not_false_eq_true, agA hA, agJA hA, ag hA, v_nJ, v_nW, v_nD, v_toD, v_px, v_py, v_rg, v_kd, v_ft, v_on, v_bg, v_en, @nJ_ M0, @nW_ M0, @nD_ M0, @toD_ M0, @px_ M0, @py_ M0, @rg_ M0, @kd_ M0, @ft_ M0, @on_ M0, bt_, q, mo, x, y', s58, mp, z', hr]
          · rw [bI_f (P := lkT M0 md a b M e f) (fun w => z w.2.2)] at hr
            refine s_Model_search_337 hF hg ?_
            rw [if_pos (show iI 0 = 0 from rfl), if_pos (show iI 0 = 0 from rfl)]
            refine ci_in mt ?_
            rw [if_neg (show ¬ iI 1 = 0 by decide)]
            simp (config := { maxSteps := 1000000 }) (disch := (first | omega | decide | assumption)) only [ltm_s, ok_n, rd_i, rd_j, fd_i, fd_j, wr_i, wr_j, fw_i, fw_j, ci_s, cj_s, cv_s, dv_n, dw_n, rt_1, rt_b, rt_20, rt_21, okb_0, okb_1, okb_b, nar_0, nar_1, nar_b, i_0, i_1, j_0, j_1, i_lit, j_lit, i_n, iI_add, iI_sub, iI_mul, iI_neg, jI_add, jI_sub, jI_mul, jI_neg, sh_1, an_1, xo_1, di_p, dj_p, i_64A, i_64, j_32, lq_ge, lq_lt, lq_le, lq_gt, lq_eq, i_lt, i_le, i_eq, j_eq, iI_A, jI_J, iI_b, iI_v, jI_v, ↓reduceIte, ite_true, ite_false, Int.reduceEq, Int.reduceLT, Int.reduceLE, Int.reduceAdd, Int.reduceSub, Int.reduceMul, Int.reduceNeg, not_true_eq_false, not_false_eq_true, agA hA, agJA hA, ag hA, v_nJ, v_nW, v_nD, v_toD, v_px, v_py, v_rg, v_kd, v_ft, v_on, v_bg, v_en, @nJ_ M0, @nW_ M0, @nD_ M0, @toD_ M0, @px_ M0, @py_ M0, @rg_ M0, @kd_ M0, @ft_ M0, @on_ M0, bt_, q, mo, x, y', s58, mp, z, hr]
        · rw [bI_f (P := lkT M0 md a b M e f) (fun w => y w.2.1)] at hr
          refine s_Model_search_337 hF hg ?_
          rw [if_pos (show iI 0 = 0 from rfl), if_pos (show iI 0 = 0 from rfl)]
          refine ci_in mt ?_
          rw [if_neg (show ¬ iI 1 = 0 by decide)]
          simp (config := { maxSteps := 1000000 }) (disch := (first | omega | decide | assumption)) only [ltm_s, ok_n, rd_i, rd_j, fd_i, fd_j, wr_i, wr_j, fw_i, fw_j, ci_s, cj_s, cv_s, dv_n, dw_n, rt_1, rt_b, rt_20, rt_21, okb_0, okb_1, okb_b, nar_0, nar_1, nar_b, i_0, i_1, j_0, j_1, i_lit, j_lit, i_n, iI_add, iI_sub, iI_mul, iI_neg, jI_add, jI_sub, jI_mul, jI_neg, sh_1, an_1, xo_1, di_p, dj_p, i_64A, i_64, j_32, lq_ge, lq_lt, lq_le, lq_gt, lq_eq, i_lt, i_le, i_eq, j_eq, iI_A, jI_J, iI_b, iI_v, jI_v, ↓reduceIte, ite_true, ite_false, Int.reduceEq, Int.reduceLT, Int.reduceLE, Int.reduceAdd, Int.reduceSub, Int.reduceMul, Int.reduceNeg, not_true_eq_false, not_false_eq_true, agA hA, agJA hA, ag hA, v_nJ, v_nW, v_nD, v_toD, v_px, v_py, v_rg, v_kd, v_ft, v_on, v_bg, v_en, @nJ_ M0, @nW_ M0, @nD_ M0, @toD_ M0, @px_ M0, @py_ M0, @rg_ M0, @kd_ M0, @ft_ M0, @on_ M0, bt_, q, mo, x, y, hr]
end Wk
