/-! THE MODEL'S SEARCH: setting out, and a look at one leg -/
/-- what the labels say, beside what is to come -/
def Lbs (M0 : am_M) (md : Int × Int × Int × Int) (by_ a b : Int) (C : Int → Int) (M : am_M) : Prop :=
  Ag M0 M ∧ sset md by_ M ∧ ofv M0 M = offs M0 a b ∧ ∀ e : Int, 0 ≤ e → e < 2 * nW M0 → (J M 262 e = 1000000000000 ∧ J M 263 e = 1000000000000 ∧ C e = FARC) ∨ ((0 ≤ J M 262 e - offs M0 a b e ∧ J M 262 e - offs M0 a b e ≤ 1600000) ∧ (0 ≤ J M 263 e ∧ J M 263 e ≤ 192000) ∧ C e ≠ FARC ∧ C e = key by_ (J M 262 e - offs M0 a b e) (J M 263 e))
/-- the best so far -/
def Sof (M0 : am_M) (by_ a b : Int) (v t k s al : Int) : Prop := (v = FARC ∧ s = -1 ∧ t = 1000000000000 ∧ k = 1000000000000 ∧ al = 0) ∨ (0 ≤ s ∧ v ≠ FARC ∧ (0 ≤ t ∧ t ≤ 4000000) ∧ (0 ≤ k ∧ k ≤ 4000000) ∧ key by_ t k = v ∧ (alone M0 by_ a b s = v → al = 1) ∧ (alone M0 by_ a b s ≠ v → al = 0))
section Se
variable {M0 M M' : am_M} {g : am_G} {F : am_FT}
theorem m_fromDoor (hF : F = am_F T0 g) (hg : GG g) (hA : Ag M0 M) (h2 : I2 M0) (h4 : I4 M0) {a e : Int} (a0 : 0 ≤ a) (a1 : a < nD M0) (e0 : 0 ≤ e) (e1 : e < 2 * nW M0) (hea : e / 2 = A M0 228 a) : F 51 0 [.ref 219, .int (iI a), .int (iI e)] [] M = some (some (.int (iI (fdr M0 a e))), M) := by
  have hn := h2.1
  have hd := h4.1
  have wa := (h4.2.2 a a0 a1).1
  refine s_Model_fromDoor hF hg ?_
  simp (disch := (first | omega | decide | assumption)) only [ltm_s, ok_n, rd_i, rd_j, fd_i, fd_j, wr_i, wr_j, fw_i, fw_j, ci_s, cj_s, cv_s, dv_n, dw_n, rt_1, rt_b, rt_20, rt_21, okb_0, okb_1, okb_b, nar_0, nar_1, nar_b, i_0, i_1, j_0, j_1, i_lit, j_lit, i_n, iI_add, iI_sub, iI_mul, iI_neg, jI_add, jI_sub, jI_mul, jI_neg, sh_1, an_1, xo_1, di_p, dj_p, i_64A, i_64, j_32, lq_ge, lq_lt, lq_le, lq_gt, lq_eq, i_lt, i_le, i_eq, j_eq, iI_A, jI_J, iI_b, iI_v, jI_v, ↓reduceIte, ite_true, ite_false, Int.reduceEq, Int.reduceLT, Int.reduceLE, Int.reduceAdd, Int.reduceSub, Int.reduceMul, Int.reduceNeg, not_true_eq_false, not_false_eq_true, agA hA, agJA hA, ag hA, v_nJ, v_nW, v_nD, v_toD, v_px, v_py, v_rg, v_kd, v_ft, v_on, v_bg, v_en, @nJ_ M0, @nW_ M0, @nD_ M0, @toD_ M0, @px_ M0, @py_ M0, @rg_ M0, @kd_ M0, @ft_ M0, @on_ M0, bt_]
  unfold fdr
  (repeat' split) <;> first | rfl | (exfalso; omega) | (refine congrArg (fun z => some (some (Value.int (iI z)), M)) ?_; omega)
theorem m_between (hF : F = am_F T0 g) (hg : GG g) (hA : Ag M0 M) (h2 : I2 M0) (h4 : I4 M0) {a b e : Int} (a0 : 0 ≤ a) (a1 : a < nD M0) (b0 : 0 ≤ b) (b1 : b < nD M0) (e0 : 0 ≤ e) (e1 : e < 2 * nW M0) : F 45 0 [.ref 219, .int (iI a), .int (iI b), .int (iI e)] [] M = some (some (.int (iI (if A M0 228 a = A M0 228 b ∧ 0 < ahd_ M0 a b e then ahd_ M0 a b e else -1))), M) := by
  have hn := h2.1
  have hd := h4.1
  have ra := A_lo M0 229 a
  obtain ⟨w, d, -⟩ := h4.2.2 b b0 b1
  obtain ⟨w2, d2, -⟩ := h4.2.2 a a0 a1
  have hf := (h2.2.2.1 _ w.1 w.2).2.1
  have hf2 := (h2.2.2.1 _ w2.1 w2.2).2.1
  refine s_Model_between hF hg ?_
  unfold ahd_
  simp (disch := (first | omega | decide | assumption)) only [ltm_s, ok_n, rd_i, rd_j, fd_i, fd_j, wr_i, wr_j, fw_i, fw_j, ci_s, cj_s, cv_s, dv_n, dw_n, rt_1, rt_b, rt_20, rt_21, okb_0, okb_1, okb_b, nar_0, nar_1, nar_b, i_0, i_1, j_0, j_1, i_lit, j_lit, i_n, iI_add, iI_sub, iI_mul, iI_neg, jI_add, jI_sub, jI_mul, jI_neg, sh_1, an_1, xo_1, di_p, dj_p, i_64A, i_64, j_32, lq_ge, lq_lt, lq_le, lq_gt, lq_eq, i_lt, i_le, i_eq, j_eq, iI_A, jI_J, iI_b, iI_v, jI_v, ↓reduceIte, ite_true, ite_false, Int.reduceEq, Int.reduceLT, Int.reduceLE, Int.reduceAdd, Int.reduceSub, Int.reduceMul, Int.reduceNeg, not_true_eq_false, not_false_eq_true, agA hA, agJA hA, ag hA, v_nJ, v_nW, v_nD, v_toD, v_px, v_py, v_rg, v_kd, v_ft, v_on, v_bg, v_en, @nJ_ M0, @nW_ M0, @nD_ M0, @toD_ M0, @px_ M0, @py_ M0, @rg_ M0, @kd_ M0, @ft_ M0, @on_ M0, bt_]
  (repeat' split) <;> first | rfl | (exfalso; omega) | (refine congrArg (fun z => some (some (Value.int (iI z)), M)) ?_; omega)
theorem lss_v (h1 : I1 M0) {by_ a b v t k s al u o : Int} (hb01 : by_ = 0 ∨ by_ = 1) (hS : Sof M0 by_ a b v t k s al) (u0 : 0 ≤ u) (u1 : u ≤ 4000000) (o0 : 0 ≤ o) (o1 : o ≤ 4000000) : lss by_ u o t k ↔ key by_ u o < v := by
  have eF : FARC = 9223372036854775807 := rfl
  rcases hS with ⟨h1, h2, h3, h4, h5⟩ | ⟨h1, h2, h3, h4, h5, -⟩
  · have := key_b (b := by_) u0 u1 o0 o1
    unfold lss
    omega
  · rw [← h5, key_lt u0 u1 o0 o1 h3.1 h3.2 h4.1 h4.2]
    unfold lss
    rfl
/-- one leg to set out on -/
theorem m_out (hF : F = am_F T0 g) (hg : GG g) (h1 : I1 M0) (h2 : I2 M0) (h4 : I4 M0) (h6 : I6 M0) {md : Int × Int × Int × Int} (hmd : mok M0 md) {by_ a b : Int} {C : Int → Int} (a0 : 0 ≤ a) (a1 : a < nD M0) (b0 : 0 ≤ b) (b1 : b < nD M0) (hC : Cok M0 md by_ a b C) (hL : Lbs M0 md by_ a b C M) {v t k s al e : Int} (hea : e / 2 = A M0 228 a) (hs1 : s < 80) (hs0 : -1 ≤ s) (hal : al = 0 ∨ al = 1) (hS : Sof M0 by_ a b v t k s al) :
    ∃ t' k' s' al' : Int, (∀ r : am_R, F 260 129 [.ref 219, .int (iI a), .int (iI b), .long (jI t'), .long (jI k'), .int (iI s'), .int (iI al'), .int (iI (e + 1))] [] M = some r → F 260 129 [.ref 219, .int (iI a), .int (iI b), .long (jI t), .long (jI k), .int (iI s), .int (iI al), .int (iI e)] [] M = some r) ∧ (al' = 0 ∨ al' = 1) ∧
      (vst M0 md by_ a b C e < v → s' = e ∧ Sof M0 by_ a b (vst M0 md by_ a b C e) t' k' e al') ∧ (¬ vst M0 md by_ a b C e < v → s' = s ∧ t' = t ∧ k' = k ∧ al' = al) := by
  have hn := h2.1
  have hd := h4.1
  have eF : FARC = 9223372036854775807 := rfl
  have wa := (h4.2.2 a a0 a1).1
  have e0 : 0 ≤ e := by omega
  have e1 : e < 2 * nW M0 := by omega
  obtain ⟨hA, hss, hO, hlb⟩ := hL
  have hb01 := hss.2.2.2
  have mg := m_mayGo hF hg hA h2 h6 hss.1 hmd e0 e1
  have hlt : ¬ 2 * A M0 228 a + 1 < e := by omega
  by_cases q : mgo M0 md e
  case neg =>
    rw [bI_f q] at mg
    have ev : vst M0 md by_ a b C e = FARC := if_neg (by rw [bI_f q]; omega)
    refine ⟨t, k, s, al, fun r hr => ?_, hal, fun x => ?_, fun _ => ⟨rfl, rfl, rfl, rfl⟩⟩
    · refine s_Model_search_129 hF hg ?_
      simp (disch := (first | omega | decide | assumption)) only [ltm_s, ok_n, rd_i, rd_j, fd_i, fd_j, wr_i, wr_j, fw_i, fw_j, ci_s, cj_s, cv_s, dv_n, dw_n, rt_1, rt_b, rt_20, rt_21, okb_0, okb_1, okb_b, nar_0, nar_1, nar_b, i_0, i_1, j_0, j_1, i_lit, j_lit, i_n, iI_add, iI_sub, iI_mul, iI_neg, jI_add, jI_sub, jI_mul, jI_neg, sh_1, an_1, xo_1, di_p, dj_p, i_64A, i_64, j_32, lq_ge, lq_lt, lq_le, lq_gt, lq_eq, i_lt, i_le, i_eq, j_eq, iI_A, jI_J, iI_b, iI_v, jI_v, ↓reduceIte, ite_true, ite_false, Int.reduceEq, Int.reduceLT, Int.reduceLE, Int.reduceAdd, Int.reduceSub, Int.reduceMul, Int.reduceNeg, not_true_eq_false, not_false_eq_true, agA hA, agJA hA, ag hA, v_nJ, v_nW, v_nD, v_toD, v_px, v_py, v_rg, v_kd, v_ft, v_on, v_bg, v_en, @nJ_ M0, @nW_ M0, @nD_ M0, @toD_ M0, @px_ M0, @py_ M0, @rg_ M0, @kd_ M0, @ft_ M0, @on_ M0, bt_, hlt, mg, hr]
    · exfalso
      rcases hS with hS | hS
      · omega
      · have := key_b (b := by_) hS.2.2.1.1 hS.2.2.1.2 hS.2.2.2.1.1 hS.2.2.2.1.2
        omega
  rw [bI_t q] at mg
  have ev : vst M0 md by_ a b C e = if alone M0 by_ a b e < thru M0 by_ a b C e then alone M0 by_ a b e else thru M0 by_ a b C e := if_pos (bI_t q)
  have mb := m_between hF hg hA h2 h4 a0 a1 b0 b1 e0 e1
  have fd := m_fromDoor hF hg hA h2 h4 a0 a1 e0 e1 hea
  have rfd := fdr_r h2 h4 (b := a) (f := e) a0 a1
  have al_ := alone_r h2 h4 (by_ := by_) (e := e) a0 a1 b0 b1
  have tr_ := thru_r h1 h2 h4 a0 a1 b0 b1 hC e0 e1
  have hle := hlb e e0 e1
  have hoe : 0 ≤ offs M0 a b e ∧ offs M0 a b e ≤ 20000 := strg_r h1 h2 h4 a0 a1 b0 b1 (en_r h2 e0 e1).1 (en_r h2 e0 e1).2
  -- through
  have step2 : ∀ (v t k s al : Int), Sof M0 by_ a b v t k s al → (-1 ≤ s ∧ s < 80) → (al = 0 ∨ al = 1) → (thru M0 by_ a b C e < v → J M 262 e < 1000000000000 ∧ (0 ≤ J M 262 e ∧ J M 262 e ≤ 4000000) ∧ (0 ≤ fdr M0 a e + J M 263 e ∧ fdr M0 a e + J M 263 e ≤ 4000000) ∧ key by_ (J M 262 e) (fdr M0 a e + J M 263 e) = thru M0 by_ a b C e ∧ F 56 0 [.ref 219, .long (jI (J M 262 e)), .long (jI (fdr M0 a e + J M 263 e)), .long (jI t), .long (jI k)] [] M = some (some (.int (iI 1)), M)) ∧ (¬ thru M0 by_ a b C e < v → 1000000000000 ≤ J M 262 e ∨ ¬ 1000000000000 ≤ J M 262 e ∧ F 56 0 [.ref 219, .long (jI (J M 262 e)), .long (jI (fdr M0 a e + J M 263 e)), .long (jI t), .long (jI k)] [] M = some (some (.int (iI 0)), M)) := by
    intro v t k s al hS hs hal
    have rS : (-1 ≤ t ∧ t ≤ 1000000000000) ∧ (-1 ≤ k ∧ k ≤ 1000000000000) := by
      rcases hS with x | x
      · omega
      · omega
    rcases hle with x | x
    · refine ⟨fun y => ?_, fun _ => Or.inl (by omega)⟩
      exfalso
      have : thru M0 by_ a b C e = FARC := if_pos x.2.2
      rcases hS with hS | hS
      · omega
      · have := key_b (b := by_) hS.2.2.1.1 hS.2.2.1.2 hS.2.2.2.1.1 hS.2.2.2.1.2
        omega
    · have et : thru M0 by_ a b C e = key by_ (J M 262 e) (fdr M0 a e + J M 263 e) := by
        unfold thru
        rw [if_neg x.2.2.1, x.2.2.2, key_add]
        congr 1 <;> omega
      have il := m_isLess hF hg (M := M) hss.2.2.1 hb01 (t := J M 262 e) (m := fdr M0 a e + J M 263 e) (u := t) (o := k) (by omega) (by omega) (by omega) (by omega) (by omega) (by omega) (by omega) (by omega)
      have iff := lss_v h1 hb01 hS (u := J M 262 e) (o := fdr M0 a e + J M 263 e) (by omega) (by omega) (by omega) (by omega)
      rw [← et] at iff
      refine ⟨fun y => ⟨by omega, by omega, by omega, et.symm, ?_⟩, fun y => Or.inr ⟨by omega, ?_⟩⟩
      · rw [bI_t (iff.mpr y)] at il; exact il
      · rw [bI_f (fun z => y (iff.mp z))] at il; exact il
  have hSv : v ≤ FARC := by
    rcases hS with hS | hS
    · omega
    · have := key_b (b := by_) hS.2.2.1.1 hS.2.2.1.2 hS.2.2.2.1.1 hS.2.2.2.1.2
      omega
  have rS : (-1 ≤ t ∧ t ≤ 1000000000000) ∧ (-1 ≤ k ∧ k ≤ 1000000000000) := by
    rcases hS with x | x
    · omega
    · omega
  have rv : vst M0 md by_ a b C e ≤ FARC := by rw [ev]; split <;> omega
  by_cases qa : alone M0 by_ a b e = FARC
  · have hno : ¬ (A M0 228 a = A M0 228 b ∧ 0 < ahd_ M0 a b e) := fun x => by
      have : alone M0 by_ a b e = key by_ 0 (ahd_ M0 a b e) := if_pos x
      have hr := ahd_r h2 h4 (e := e) a0 a1 b0 b1
      have := key_b (b := by_) (t := 0) (m := ahd_ M0 a b e) (by omega) (by omega) (by omega) (by omega)
      omega
    rw [if_neg hno] at mb
    have ev2 : vst M0 md by_ a b C e = thru M0 by_ a b C e := by rw [ev, if_neg (by omega)]
    obtain ⟨p, n⟩ := step2 v t k s al hS ⟨hs0, hs1⟩ hal
    by_cases y : thru M0 by_ a b C e < v
    · obtain ⟨y1, y2, y3, y4, y5⟩ := p y
      have y1' : ¬ 1000000000000 ≤ J M 262 e := by omega
      refine ⟨J M 262 e, fdr M0 a e + J M 263 e, e, 0, fun r hr => ?_, Or.inl rfl, fun _ => ⟨rfl, Or.inr ⟨e0, by omega, y2, y3, by rw [y4, ev2], fun x => by omega, fun _ => rfl⟩⟩, fun x => by omega⟩
      refine s_Model_search_129 hF hg ?_
      simp (disch := (first | omega | decide | assumption)) only [ltm_s, ok_n, rd_i, rd_j, fd_i, fd_j, wr_i, wr_j, fw_i, fw_j, ci_s, cj_s, cv_s, dv_n, dw_n, rt_1, rt_b, rt_20, rt_21, okb_0, okb_1, okb_b, nar_0, nar_1, nar_b, i_0, i_1, j_0, j_1, i_lit, j_lit, i_n, iI_add, iI_sub, iI_mul, iI_neg, jI_add, jI_sub, jI_mul, jI_neg, sh_1, an_1, xo_1, di_p, dj_p, i_64A, i_64, j_32, lq_ge, lq_lt, lq_le, lq_gt, lq_eq, i_lt, i_le, i_eq, j_eq, iI_A, jI_J, iI_b, iI_v, jI_v, ↓reduceIte, ite_true, ite_false, Int.reduceEq, Int.reduceLT, Int.reduceLE, Int.reduceAdd, Int.reduceSub, Int.reduceMul, Int.reduceNeg, not_true_eq_false, not_false_eq_true, agA hA, agJA hA, ag hA, v_nJ, v_nW, v_nD, v_toD, v_px, v_py, v_rg, v_kd, v_ft, v_on, v_bg, v_en, @nJ_ M0, @nW_ M0, @nD_ M0, @toD_ M0, @px_ M0, @py_ M0, @rg_ M0, @kd_ M0, @ft_ M0, @on_ M0, bt_, hlt, mg, mb, fd, y1', y5, hr]
    · refine ⟨t, k, s, al, fun r hr => ?_, hal, fun x => by omega, fun _ => ⟨rfl, rfl, rfl, rfl⟩⟩
      rcases n y with y1 | ⟨y1, y5⟩
      · refine s_Model_search_129 hF hg ?_
        simp (disch := (first | omega | decide | assumption)) only [ltm_s, ok_n, rd_i, rd_j, fd_i, fd_j, wr_i, wr_j, fw_i, fw_j, ci_s, cj_s, cv_s, dv_n, dw_n, rt_1, rt_b, rt_20, rt_21, okb_0, okb_1, okb_b, nar_0, nar_1, nar_b, i_0, i_1, j_0, j_1, i_lit, j_lit, i_n, iI_add, iI_sub, iI_mul, iI_neg, jI_add, jI_sub, jI_mul, jI_neg, sh_1, an_1, xo_1, di_p, dj_p, i_64A, i_64, j_32, lq_ge, lq_lt, lq_le, lq_gt, lq_eq, i_lt, i_le, i_eq, j_eq, iI_A, jI_J, iI_b, iI_v, jI_v, ↓reduceIte, ite_true, ite_false, Int.reduceEq, Int.reduceLT, Int.reduceLE, Int.reduceAdd, Int.reduceSub, Int.reduceMul, Int.reduceNeg, not_true_eq_false, not_false_eq_true, agA hA, agJA hA, ag hA, v_nJ, v_nW, v_nD, v_toD, v_px, v_py, v_rg, v_kd, v_ft, v_on, v_bg, v_en, @nJ_ M0, @nW_ M0, @nD_ M0, @toD_ M0, @px_ M0, @py_ M0, @rg_ M0, @kd_ M0, @ft_ M0, @on_ M0, bt_, hlt, mg, mb, y1, hr]
      · refine s_Model_search_129 hF hg ?_
        simp (disch := (first | omega | decide | assumption)) only [ltm_s, ok_n, rd_i, rd_j, fd_i, fd_j, wr_i, wr_j, fw_i, fw_j, ci_s, cj_s, cv_s, dv_n, dw_n, rt_1, rt_b, rt_20, rt_21, okb_0, okb_1, okb_b, nar_0, nar_1, nar_b, i_0, i_1, j_0, j_1, i_lit, j_lit, i_n, iI_add, iI_sub, iI_mul, iI_neg, jI_add, jI_sub, jI_mul, jI_neg, sh_1, an_1, xo_1, di_p, dj_p, i_64A, i_64, j_32, lq_ge, lq_lt, lq_le, lq_gt, lq_eq, i_lt, i_le, i_eq, j_eq, iI_A, jI_J, iI_b, iI_v, jI_v, ↓reduceIte, ite_true, ite_false, Int.reduceEq, Int.reduceLT, Int.reduceLE, Int.reduceAdd, Int.reduceSub, Int.reduceMul, Int.reduceNeg, not_true_eq_false, not_false_eq_true, agA hA, agJA hA, ag hA, v_nJ, v_nW, v_nD, v_toD, v_px, v_py, v_rg, v_kd, v_ft, v_on, v_bg, v_en, @nJ_ M0, @nW_ M0, @nD_ M0, @toD_ M0, @px_ M0, @py_ M0, @rg_ M0, @kd_ M0, @ft_ M0, @on_ M0, bt_, hlt, mg, mb, fd, y1, y5, hr]
  · obtain ⟨⟨c1, c2, c3⟩, c4, c5⟩ := al_.resolve_left qa
    rw [if_pos ⟨c1, c2⟩] at mb
    have hx8 : ¬ ahd_ M0 a b e < 0 := by omega
    have il := m_isLess hF hg (M := M) hss.2.2.1 hb01 (t := 0) (m := ahd_ M0 a b e) (u := t) (o := k) (by omega) (by omega) (by omega) (by omega) (by omega) (by omega) (by omega) (by omega)
    have iff := lss_v h1 hb01 hS (u := 0) (o := ahd_ M0 a b e) (by omega) (by omega) (by omega) (by omega)
    rw [← c4] at iff
    by_cases z : alone M0 by_ a b e < v
    · rw [bI_t (iff.mpr z)] at il
      have S1 : Sof M0 by_ a b (alone M0 by_ a b e) 0 (ahd_ M0 a b e) e 1 := Or.inr ⟨e0, qa, by omega, by omega, c4.symm, fun _ => rfl, fun x => absurd rfl x⟩
      obtain ⟨p, n⟩ := step2 _ _ _ e 1 S1 (by omega) (Or.inr rfl)
      by_cases y : thru M0 by_ a b C e < alone M0 by_ a b e
      · obtain ⟨y1, y2, y3, y4, y5⟩ := p y
        have y1' : ¬ 1000000000000 ≤ J M 262 e := by omega
        have ev2 : vst M0 md by_ a b C e = thru M0 by_ a b C e := by rw [ev, if_neg (by omega)]
        refine ⟨J M 262 e, fdr M0 a e + J M 263 e, e, 0, fun r hr => ?_, Or.inl rfl, fun _ => ⟨rfl, Or.inr ⟨e0, by omega, y2, y3, by rw [y4, ev2], fun x => by omega, fun _ => rfl⟩⟩, fun x => by omega⟩
        refine s_Model_search_129 hF hg ?_
        simp (disch := (first | omega | decide | assumption)) only [ltm_s, ok_n, rd_i, rd_j, fd_i, fd_j, wr_i, wr_j, fw_i, fw_j, ci_s, cj_s, cv_s, dv_n, dw_n, rt_1, rt_b, rt_20, rt_21, okb_0, okb_1, okb_b, nar_0, nar_1, nar_b, i_0, i_1, j_0, j_1, i_lit, j_lit, i_n, iI_add, iI_sub, iI_mul, iI_neg, jI_add, jI_sub, jI_mul, jI_neg, sh_1, an_1, xo_1, di_p, dj_p, i_64A, i_64, j_32, lq_ge, lq_lt, lq_le, lq_gt, lq_eq, i_lt, i_le, i_eq, j_eq, iI_A, jI_J, iI_b, iI_v, jI_v, ↓reduceIte, ite_true, ite_false, Int.reduceEq, Int.reduceLT, Int.reduceLE, Int.reduceAdd, Int.reduceSub, Int.reduceMul, Int.reduceNeg, not_true_eq_false, not_false_eq_true, agA hA, agJA hA, ag hA, v_nJ, v_nW, v_nD, v_toD, v_px, v_py, v_rg, v_kd, v_ft, v_on, v_bg, v_en, @nJ_ M0, @nW_ M0, @nD_ M0, @toD_ M0, @px_ M0, @py_ M0, @rg_ M0, @kd_ M0, @ft_ M0, @on_ M0, bt_, hlt, mg, mb, fd, hx8, il, y1', y5, hr]
      · have ev2 : vst M0 md by_ a b C e = alone M0 by_ a b e := by rw [ev]; split <;> omega
        refine ⟨0, ahd_ M0 a b e, e, 1, fun r hr => ?_, Or.inr rfl, fun _ => ⟨rfl, by rw [ev2]; exact S1⟩, fun x => by omega⟩
        rcases n y with y1 | ⟨y1, y5⟩
        · refine s_Model_search_129 hF hg ?_
          simp (disch := (first | omega | decide | assumption)) only [ltm_s, ok_n, rd_i, rd_j, fd_i, fd_j, wr_i, wr_j, fw_i, fw_j, ci_s, cj_s, cv_s, dv_n, dw_n, rt_1, rt_b, rt_20, rt_21, okb_0, okb_1, okb_b, nar_0, nar_1, nar_b, i_0, i_1, j_0, j_1, i_lit, j_lit, i_n, iI_add, iI_sub, iI_mul, iI_neg, jI_add, jI_sub, jI_mul, jI_neg, sh_1, an_1, xo_1, di_p, dj_p, i_64A, i_64, j_32, lq_ge, lq_lt, lq_le, lq_gt, lq_eq, i_lt, i_le, i_eq, j_eq, iI_A, jI_J, iI_b, iI_v, jI_v, ↓reduceIte, ite_true, ite_false, Int.reduceEq, Int.reduceLT, Int.reduceLE, Int.reduceAdd, Int.reduceSub, Int.reduceMul, Int.reduceNeg, not_true_eq_false, not_false_eq_true, agA hA, agJA hA, ag hA, v_nJ, v_nW, v_nD, v_toD, v_px, v_py, v_rg, v_kd, v_ft, v_on, v_bg, v_en, @nJ_ M0, @nW_ M0, @nD_ M0, @toD_ M0, @px_ M0, @py_ M0, @rg_ M0, @kd_ M0, @ft_ M0, @on_ M0, bt_, hlt, mg, mb, hx8, il, y1, hr]
        · refine s_Model_search_129 hF hg ?_
          simp (disch := (first | omega | decide | assumption)) only [ltm_s, ok_n, rd_i, rd_j, fd_i, fd_j, wr_i, wr_j, fw_i, fw_j, ci_s, cj_s, cv_s, dv_n, dw_n, rt_1, rt_b, rt_20, rt_21, okb_0, okb_1, okb_b, nar_0, nar_1, nar_b, i_0, i_1, j_0, j_1, i_lit, j_lit, i_n, iI_add, iI_sub, iI_mul, iI_neg, jI_add, jI_sub, jI_mul, jI_neg, sh_1, an_1, xo_1, di_p, dj_p, i_64A, i_64, j_32, lq_ge, lq_lt, lq_le, lq_gt, lq_eq, i_lt, i_le, i_eq, j_eq, iI_A, jI_J, iI_b, iI_v, jI_v, ↓reduceIte, ite_true, ite_false, Int.reduceEq, Int.reduceLT, Int.reduceLE, Int.reduceAdd, Int.reduceSub, Int.reduceMul, Int.reduceNeg, not_true_eq_false, not_false_eq_true, agA hA, agJA hA, ag hA, v_nJ, v_nW, v_nD, v_toD, v_px, v_py, v_rg, v_kd, v_ft, v_on, v_bg, v_en, @nJ_ M0, @nW_ M0, @nD_ M0, @toD_ M0, @px_ M0, @py_ M0, @rg_ M0, @kd_ M0, @ft_ M0, @on_ M0, bt_, hlt, mg, mb, fd, hx8, il, y1, y5, hr]
    · rw [bI_f (fun x => z (iff.mp x))] at il
      obtain ⟨p, n⟩ := step2 v t k s al hS ⟨hs0, hs1⟩ hal
      by_cases y : thru M0 by_ a b C e < v
      · obtain ⟨y1, y2, y3, y4, y5⟩ := p y
        have y1' : ¬ 1000000000000 ≤ J M 262 e := by omega
        have ev2 : vst M0 md by_ a b C e = thru M0 by_ a b C e := by rw [ev, if_neg (by omega)]
        refine ⟨J M 262 e, fdr M0 a e + J M 263 e, e, 0, fun r hr => ?_, Or.inl rfl, fun _ => ⟨rfl, Or.inr ⟨e0, by omega, y2, y3, by rw [y4, ev2], fun x => by omega, fun _ => rfl⟩⟩, fun x => by omega⟩
        refine s_Model_search_129 hF hg ?_
        simp (disch := (first | omega | decide | assumption)) only [ltm_s, ok_n, rd_i, rd_j, fd_i, fd_j, wr_i, wr_j, fw_i, fw_j, ci_s, cj_s, cv_s, dv_n, dw_n, rt_1, rt_b, rt_20, rt_21, okb_0, okb_1, okb_b, nar_0, nar_1, nar_b, i_0, i_1, j_0, j_1, i_lit, j_lit, i_n, iI_add, iI_sub, iI_mul, iI_neg, jI_add, jI_sub, jI_mul, jI_neg, sh_1, an_1, xo_1, di_p, dj_p, i_64A, i_64, j_32, lq_ge, lq_lt, lq_le, lq_gt, lq_eq, i_lt, i_le, i_eq, j_eq, iI_A, jI_J, iI_b, iI_v, jI_v, ↓reduceIte, ite_true, ite_false, Int.reduceEq, Int.reduceLT, Int.reduceLE, Int.reduceAdd, Int.reduceSub, Int.reduceMul, Int.reduceNeg, not_true_eq_false, not_false_eq_true, agA hA, agJA hA, ag hA, v_nJ, v_nW, v_nD, v_toD, v_px, v_py, v_rg, v_kd, v_ft, v_on, v_bg, v_en, @nJ_ M0, @nW_ M0, @nD_ M0, @toD_ M0, @px_ M0, @py_ M0, @rg_ M0, @kd_ M0, @ft_ M0, @on_ M0, bt_, hlt, mg, mb, fd, hx8, il, y1', y5, hr]
      · have ev2 : ¬ vst M0 md by_ a b C e < v := by rw [ev]; split <;> omega
        refine ⟨t, k, s, al, fun r hr => ?_, hal, fun x => by omega, fun _ => ⟨rfl, rfl, rfl, rfl⟩⟩
        rcases n y with y1 | ⟨y1, y5⟩
        · refine s_Model_search_129 hF hg ?_
          simp (disch := (first | omega | decide | assumption)) only [ltm_s, ok_n, rd_i, rd_j, fd_i, fd_j, wr_i, wr_j, fw_i, fw_j, ci_s, cj_s, cv_s, dv_n, dw_n, rt_1, rt_b, rt_20, rt_21, okb_0, okb_1, okb_b, nar_0, nar_1, nar_b, i_0, i_1, j_0, j_1, i_lit, j_lit, i_n, iI_add, iI_sub, iI_mul, iI_neg, jI_add, jI_sub, jI_mul, jI_neg, sh_1, an_1, xo_1, di_p, dj_p, i_64A, i_64, j_32, lq_ge, lq_lt, lq_le, lq_gt, lq_eq, i_lt, i_le, i_eq, j_eq, iI_A, jI_J, iI_b, iI_v, jI_v, ↓reduceIte, ite_true, ite_false, Int.reduceEq, Int.reduceLT, Int.reduceLE, Int.reduceAdd, Int.reduceSub, Int.reduceMul, Int.reduceNeg, not_true_eq_false, not_false_eq_true, agA hA, agJA hA, ag hA, v_nJ, v_nW, v_nD, v_toD, v_px, v_py, v_rg, v_kd, v_ft, v_on, v_bg, v_en, @nJ_ M0, @nW_ M0, @nD_ M0, @toD_ M0, @px_ M0, @py_ M0, @rg_ M0, @kd_ M0, @ft_ M0, @on_ M0, bt_, hlt, mg, mb, hx8, il, y1, hr]
        · refine s_Model_search_129 hF hg ?_
          simp (disch := (first | omega | decide | assumption)) only [ltm_s, ok_n, rd_i, rd_j, fd_i, fd_j, wr_i, wr_j, fw_i, fw_j, ci_s, cj_s, cv_s, dv_n, dw_n, rt_1, rt_b, rt_20, rt_21, okb_0, okb_1, okb_b, nar_0, nar_1, nar_b, i_0, i_1, j_0, j_1, i_lit, j_lit, i_n, iI_add, iI_sub, iI_mul, iI_neg, jI_add, jI_sub, jI_mul, jI_neg, sh_1, an_1, xo_1, di_p, dj_p, i_64A, i_64, j_32, lq_ge, lq_lt, lq_le, lq_gt, lq_eq, i_lt, i_le, i_eq, j_eq, iI_A, jI_J, iI_b, iI_v, jI_v, ↓reduceIte, ite_true, ite_false, Int.reduceEq, Int.reduceLT, Int.reduceLE, Int.reduceAdd, Int.reduceSub, Int.reduceMul, Int.reduceNeg, not_true_eq_false, not_false_eq_true, agA hA, agJA hA, ag hA, v_nJ, v_nW, v_nD, v_toD, v_px, v_py, v_rg, v_kd, v_ft, v_on, v_bg, v_en, @nJ_ M0, @nW_ M0, @nD_ M0, @toD_ M0, @px_ M0, @py_ M0, @rg_ M0, @kd_ M0, @ft_ M0, @on_ M0, bt_, hlt, mg, mb, fd, hx8, il, y1, y5, hr]
end Se
