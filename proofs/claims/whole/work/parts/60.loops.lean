/-! THE MODEL'S LOOPS that let down -/
section Lo
variable {M0 M : am_M} {g : am_G} {F : am_FT}
theorem m_toDoor (hF : F = am_F T0 g) (hg : GG g) (hA : Ag M0 M) (h2 : I2 M0) (h4 : I4 M0) {b f : Int} (b0 : 0 ≤ b) (b1 : b < nD M0) (f0 : 0 ≤ f) (f1 : f < 2 * nW M0) (q : f / 2 = A M0 228 b) : F 63 0 [.ref 219, .int (iI b), .int (iI f)] [] M = some (some (.int (iI (tdr M0 b f))), M) := by
  have hn := h2.1
  have hd := h4.1
  have wb := (h4.2.2 b b0 b1).1
  refine s_Model_toDoor hF hg ?_
  simp (disch := (first | omega | decide | assumption)) only [ltm_s, ok_n, rd_i, rd_j, fd_i, fd_j, wr_i, wr_j, fw_i, fw_j, ci_s, cj_s, cv_s, dv_n, dw_n, rt_1, rt_b, rt_20, rt_21, okb_0, okb_1, okb_b, nar_0, nar_1, nar_b, i_0, i_1, j_0, j_1, i_lit, j_lit, i_n, iI_add, iI_sub, iI_mul, iI_neg, jI_add, jI_sub, jI_mul, jI_neg, sh_1, an_1, xo_1, di_p, dj_p, i_64A, i_64, j_32, lq_ge, lq_lt, lq_le, lq_gt, lq_eq, i_lt, i_le, i_eq, j_eq, iI_A, jI_J, iI_b, iI_v, jI_v, ↓reduceIte, ite_true, ite_false, Int.reduceEq, Int.reduceLT, Int.reduceLE, Int.reduceAdd, Int.reduceSub, Int.reduceMul, Int.reduceNeg, not_true_eq_false, not_false_eq_true, agA hA, agJA hA, ag hA, v_nJ, v_nW, v_nD, v_toD, v_px, v_py, v_rg, v_kd, v_ft, v_on, v_bg, v_en, @nJ_ M0, @nW_ M0, @nD_ M0, @toD_ M0, @px_ M0, @py_ M0, @rg_ M0, @kd_ M0, @ft_ M0, @on_ M0, bt_]
  unfold tdr
  (repeat' split) <;> first | rfl | (exfalso; omega) | (refine congrArg (fun z => some (some (Value.int (iI z)), M)) ?_; omega)
/-- nothing to be let down at this pair -/
def pok (M0 : am_M) (md : Int × Int × Int × Int) (by_ b : Int) (M : am_M) (e f : Int) : Prop := may M0 md e f → (gol M0 b f → mcl M0 by_ M e ≤ key by_ 0 (tdr M0 b f)) ∧ (mcl M0 by_ M f ≠ FARC → mcl M0 by_ M e ≤ mcl M0 by_ M f + key by_ (ofv M0 M f) (prc M0 (f / 2) md.2.2.1))
theorem m_try (hF : F = am_F T0 g) (hg : GG g) (hA : Ag M0 M) (h1 : I1 M0) (h2 : I2 M0) (h4 : I4 M0) (h6 : I6 M0) (h7 : I7 M0) (h8 : I8 M0) (h9 : I9 M0) {md : Int × Int × Int × Int} (hmd : mok M0 md) {by_ b : Int} (b0 : 0 ≤ b) (b1 : b < nD M0) (hs : sset md by_ M) (hL : MLab M0 md by_ b M) {e k ch : Int} (e0 : 0 ≤ e) (e1 : e < 2 * nW M0) (f0 : 0 ≤ k) (f1 : k < 2 * nW M0) (hch : ch = 0 ∨ ch = 1) :
    ∃ (c2 : Int) (M2 : am_M), (∀ r : am_R, F 251 58 [.ref 219, .int (iI b), .int (iI (2 * nW M0)), .int (iI c2), .int (iI e), .int (iI (k + 1))] [] M2 = some r → F 251 58 [.ref 219, .int (iI b), .int (iI (2 * nW M0)), .int (iI ch), .int (iI e), .int (iI k)] [] M = some r) ∧ Ke [262, 263] M M2 ∧ MLab M0 md by_ b M2 ∧ sm (mcl M0 by_ M2) (2 * nW M0).toNat ≤ sm (mcl M0 by_ M) (2 * nW M0).toNat ∧
      (c2 = 1 ∧ (ch = 1 ∨ sm (mcl M0 by_ M2) (2 * nW M0).toNat < sm (mcl M0 by_ M) (2 * nW M0).toNat) ∨ c2 = 0 ∧ ch = 0 ∧ M2 = M ∧ pok M0 md by_ b M e k) := by
  have hn := h2.1
  have hd := h4.1
  have eF : FARC = 9223372036854775807 := rfl
  obtain ⟨hmd1, hmd2, u0, u1⟩ := hmd
  have hm2 : mok M0 md := ⟨hmd1, hmd2, u0, u1⟩
  have wb := (h4.2.2 b b0 b1).1
  have htd := tdr_r h2 h4 (f := k) b0 b1
  have hpr := prc_r h2 (w := k / 2) (by omega) (by omega) u0 u1
  have mt := m_mayTurn hF hg hA h1 h2 h6 h7 h8 h9 hs.1 hm2 e0 e1 f0 f1
  have hlt : ¬ 2 * nW M0 ≤ k := by omega
  have s58 := hs.1.2.2
  by_cases hm : may M0 md e k
  case neg =>
    rw [bI_f hm] at mt
    refine ⟨ch, M, fun r hr => ?_, Ke.refl, hL, Int.le_refl _, ?_⟩
    · refine s_Model_letsDown_58 hF hg ?_
      simp (disch := (first | omega | decide | assumption)) only [ltm_s, ok_n, rd_i, rd_j, fd_i, fd_j, wr_i, wr_j, fw_i, fw_j, ci_s, cj_s, cv_s, dv_n, dw_n, rt_1, rt_b, rt_20, rt_21, okb_0, okb_1, okb_b, nar_0, nar_1, nar_b, i_0, i_1, j_0, j_1, i_lit, j_lit, i_n, iI_add, iI_sub, iI_mul, iI_neg, jI_add, jI_sub, jI_mul, jI_neg, sh_1, an_1, xo_1, di_p, dj_p, i_64A, i_64, j_32, lq_ge, lq_lt, lq_le, lq_gt, lq_eq, i_lt, i_le, i_eq, j_eq, iI_A, jI_J, iI_b, iI_v, jI_v, ↓reduceIte, ite_true, ite_false, Int.reduceEq, Int.reduceLT, Int.reduceLE, Int.reduceAdd, Int.reduceSub, Int.reduceMul, Int.reduceNeg, not_true_eq_false, not_false_eq_true, agA hA, agJA hA, ag hA, v_nJ, v_nW, v_nD, v_toD, v_px, v_py, v_rg, v_kd, v_ft, v_on, v_bg, v_en, @nJ_ M0, @nW_ M0, @nD_ M0, @toD_ M0, @px_ M0, @py_ M0, @rg_ M0, @kd_ M0, @ft_ M0, @on_ M0, bt_, hlt, mt, hr]
    · rcases hch with rfl | rfl
      · exact Or.inr ⟨rfl, rfl, rfl, fun q => absurd q hm⟩
      · exact Or.inl ⟨rfl, Or.inl rfl⟩
  rw [bI_t hm] at mt
  -- the way through
  have fin2 : ∀ M1 : am_M, Ag M0 M1 → sset md by_ M1 → MLab M0 md by_ b M1 → ((1000000000000 ≤ J M1 262 k ∧ mcl M0 by_ M1 k = FARC) ∨ (¬ 1000000000000 ≤ J M1 262 k ∧ (0 ≤ J M1 263 k ∧ J M1 263 k ≤ 192000) ∧ ∃ (x : Int) (M' : am_M), F 189 0 [.ref 219, .int (iI e), .long (jI (J M1 262 k)), .long (jI (J M1 263 k + prc M0 (k / 2) md.2.2.1))] [] M1 = some (some (.int (iI x)), M') ∧ Ke [262, 263] M1 M' ∧ MLab M0 md by_ b M' ∧ (x = 1 ∧ sm (mcl M0 by_ M') (2 * nW M0).toNat < sm (mcl M0 by_ M1) (2 * nW M0).toNat ∨ x = 0 ∧ M' = M1 ∧ mcl M0 by_ M1 e ≤ mcl M0 by_ M1 k + key by_ (ofv M0 M1 k) (prc M0 (k / 2) md.2.2.1)))) := by
    intro M1 A1 s1 L1
    have hR := m_Lrg (md := md) h1 h2 h4 s1.2.1 u0 u1 b0 b1
    have rf := Lab.r hR L1 f0 (by omega)
    have of := hR.2 k f0 (by omega)
    rcases rf with x | x
    · exact Or.inl ⟨by omega, x.2.2⟩
    · refine Or.inr ⟨by omega, by omega, ?_⟩
      obtain ⟨y, M', p1, p2, p3, p4⟩ := m_relax hF hg A1 h1 h2 h4 u0 u1 b0 b1 s1 L1 e0 e1 f0 f1 hm (t := J M1 262 k) (m := J M1 263 k + prc M0 (k / 2) md.2.2.1) (Or.inr ⟨by show cl by_ (ofv M0 M1) (J M1 262) (J M1 263) k ≠ FARC; omega, rfl, rfl⟩)
      refine ⟨y, M', p1, p2, p3, p4.imp id fun ⟨z1, z2, z3⟩ => ⟨z1, z2, ?_⟩⟩
      have e3 : mcl M0 by_ M1 k = key by_ (J M1 262 k - ofv M0 M1 k) (J M1 263 k) := x.2.2.1
      rw [e3, key_add]
      have : J M1 262 k - ofv M0 M1 k + ofv M0 M1 k = J M1 262 k := by omega
      rw [this]; exact z3
  by_cases q : k / 2 = A M0 228 b
  · have q' : (k / 2 = A M0 228 b) = True := eq_true q
    obtain ⟨x1, M1, p1, k1, L1, o1⟩ := m_relax hF hg hA h1 h2 h4 u0 u1 b0 b1 hs hL e0 e1 f0 f1 hm (t := 0) (m := tdr M0 b k) (Or.inl ⟨q, rfl, rfl⟩)
    have A1 : Ag M0 M1 := hA.trans (k1.ag (by decide))
    have s1 := sset_ke hs k1
    have s581 := s1.1.2.2
    have mp1 := m_priceOf hF hg A1 h2 (w := k / 2) (by omega) (by omega) u0 u1
    have td := m_toDoor hF hg hA h2 h4 (b := b) (f := k) b0 b1 f0 f1 q
    rcases fin2 M1 A1 s1 L1 with ⟨i1, i2⟩ | ⟨i1, i3, x2, M2, p2, k2, L2, o2⟩
    · rcases o1 with ⟨rfl, o1⟩ | ⟨rfl, rfl, o1⟩
      · rcases hch with rfl | rfl
        · refine ⟨1, M1, fun r hr => ?_, (k1), L1, by omega, ?_⟩
          · refine s_Model_letsDown_58 hF hg ?_
            simp (disch := (first | omega | decide | assumption)) only [ltm_s, ok_n, rd_i, rd_j, fd_i, fd_j, wr_i, wr_j, fw_i, fw_j, ci_s, cj_s, cv_s, dv_n, dw_n, rt_1, rt_b, rt_20, rt_21, okb_0, okb_1, okb_b, nar_0, nar_1, nar_b, i_0, i_1, j_0, j_1, i_lit, j_lit, i_n, iI_add, iI_sub, iI_mul, iI_neg, jI_add, jI_sub, jI_mul, jI_neg, sh_1, an_1, xo_1, di_p, dj_p, i_64A, i_64, j_32, lq_ge, lq_lt, lq_le, lq_gt, lq_eq, i_lt, i_le, i_eq, j_eq, iI_A, jI_J, iI_b, iI_v, jI_v, ↓reduceIte, ite_true, ite_false, Int.reduceEq, Int.reduceLT, Int.reduceLE, Int.reduceAdd, Int.reduceSub, Int.reduceMul, Int.reduceNeg, not_true_eq_false, not_false_eq_true, agA hA, agJA hA, ag hA, v_nJ, v_nW, v_nD, v_toD, v_px, v_py, v_rg, v_kd, v_ft, v_on, v_bg, v_en, @nJ_ M0, @nW_ M0, @nD_ M0, @toD_ M0, @px_ M0, @py_ M0, @rg_ M0, @kd_ M0, @ft_ M0, @on_ M0, bt_, hlt, mt, q', td, p1, i1, s581, mp1, hr]
          · exact Or.inl ⟨rfl, Or.inr (by omega)⟩
        · refine ⟨1, M1, fun r hr => ?_, (k1), L1, by omega, ?_⟩
          · refine s_Model_letsDown_58 hF hg ?_
            simp (disch := (first | omega | decide | assumption)) only [ltm_s, ok_n, rd_i, rd_j, fd_i, fd_j, wr_i, wr_j, fw_i, fw_j, ci_s, cj_s, cv_s, dv_n, dw_n, rt_1, rt_b, rt_20, rt_21, okb_0, okb_1, okb_b, nar_0, nar_1, nar_b, i_0, i_1, j_0, j_1, i_lit, j_lit, i_n, iI_add, iI_sub, iI_mul, iI_neg, jI_add, jI_sub, jI_mul, jI_neg, sh_1, an_1, xo_1, di_p, dj_p, i_64A, i_64, j_32, lq_ge, lq_lt, lq_le, lq_gt, lq_eq, i_lt, i_le, i_eq, j_eq, iI_A, jI_J, iI_b, iI_v, jI_v, ↓reduceIte, ite_true, ite_false, Int.reduceEq, Int.reduceLT, Int.reduceLE, Int.reduceAdd, Int.reduceSub, Int.reduceMul, Int.reduceNeg, not_true_eq_false, not_false_eq_true, agA hA, agJA hA, ag hA, v_nJ, v_nW, v_nD, v_toD, v_px, v_py, v_rg, v_kd, v_ft, v_on, v_bg, v_en, @nJ_ M0, @nW_ M0, @nD_ M0, @toD_ M0, @px_ M0, @py_ M0, @rg_ M0, @kd_ M0, @ft_ M0, @on_ M0, bt_, hlt, mt, q', td, p1, i1, s581, mp1, hr]
          · exact Or.inl ⟨rfl, Or.inl rfl⟩
      · rcases hch with rfl | rfl
        · refine ⟨0, M1, fun r hr => ?_, (k1), L1, by omega, ?_⟩
          · refine s_Model_letsDown_58 hF hg ?_
            simp (disch := (first | omega | decide | assumption)) only [ltm_s, ok_n, rd_i, rd_j, fd_i, fd_j, wr_i, wr_j, fw_i, fw_j, ci_s, cj_s, cv_s, dv_n, dw_n, rt_1, rt_b, rt_20, rt_21, okb_0, okb_1, okb_b, nar_0, nar_1, nar_b, i_0, i_1, j_0, j_1, i_lit, j_lit, i_n, iI_add, iI_sub, iI_mul, iI_neg, jI_add, jI_sub, jI_mul, jI_neg, sh_1, an_1, xo_1, di_p, dj_p, i_64A, i_64, j_32, lq_ge, lq_lt, lq_le, lq_gt, lq_eq, i_lt, i_le, i_eq, j_eq, iI_A, jI_J, iI_b, iI_v, jI_v, ↓reduceIte, ite_true, ite_false, Int.reduceEq, Int.reduceLT, Int.reduceLE, Int.reduceAdd, Int.reduceSub, Int.reduceMul, Int.reduceNeg, not_true_eq_false, not_false_eq_true, agA hA, agJA hA, ag hA, v_nJ, v_nW, v_nD, v_toD, v_px, v_py, v_rg, v_kd, v_ft, v_on, v_bg, v_en, @nJ_ M0, @nW_ M0, @nD_ M0, @toD_ M0, @px_ M0, @py_ M0, @rg_ M0, @kd_ M0, @ft_ M0, @on_ M0, bt_, hlt, mt, q', td, p1, i1, s581, mp1, hr]
          · exact Or.inr ⟨rfl, rfl, rfl, fun _ => ⟨fun _ => o1, fun z => absurd i2 z⟩⟩
        · refine ⟨1, M1, fun r hr => ?_, (k1), L1, by omega, ?_⟩
          · refine s_Model_letsDown_58 hF hg ?_
            simp (disch := (first | omega | decide | assumption)) only [ltm_s, ok_n, rd_i, rd_j, fd_i, fd_j, wr_i, wr_j, fw_i, fw_j, ci_s, cj_s, cv_s, dv_n, dw_n, rt_1, rt_b, rt_20, rt_21, okb_0, okb_1, okb_b, nar_0, nar_1, nar_b, i_0, i_1, j_0, j_1, i_lit, j_lit, i_n, iI_add, iI_sub, iI_mul, iI_neg, jI_add, jI_sub, jI_mul, jI_neg, sh_1, an_1, xo_1, di_p, dj_p, i_64A, i_64, j_32, lq_ge, lq_lt, lq_le, lq_gt, lq_eq, i_lt, i_le, i_eq, j_eq, iI_A, jI_J, iI_b, iI_v, jI_v, ↓reduceIte, ite_true, ite_false, Int.reduceEq, Int.reduceLT, Int.reduceLE, Int.reduceAdd, Int.reduceSub, Int.reduceMul, Int.reduceNeg, not_true_eq_false, not_false_eq_true, agA hA, agJA hA, ag hA, v_nJ, v_nW, v_nD, v_toD, v_px, v_py, v_rg, v_kd, v_ft, v_on, v_bg, v_en, @nJ_ M0, @nW_ M0, @nD_ M0, @toD_ M0, @px_ M0, @py_ M0, @rg_ M0, @kd_ M0, @ft_ M0, @on_ M0, bt_, hlt, mt, q', td, p1, i1, s581, mp1, hr]
          · exact Or.inl ⟨rfl, Or.inl rfl⟩
    · rcases o2 with ⟨rfl, o2⟩ | ⟨rfl, rfl, o2⟩
      · rcases o1 with ⟨rfl, o1⟩ | ⟨rfl, rfl, o1⟩
        · rcases hch with rfl | rfl
          · refine ⟨1, M2, fun r hr => ?_, (k1.trans k2), L2, by omega, ?_⟩
            · refine s_Model_letsDown_58 hF hg ?_
              simp (disch := (first | omega | decide | assumption)) only [ltm_s, ok_n, rd_i, rd_j, fd_i, fd_j, wr_i, wr_j, fw_i, fw_j, ci_s, cj_s, cv_s, dv_n, dw_n, rt_1, rt_b, rt_20, rt_21, okb_0, okb_1, okb_b, nar_0, nar_1, nar_b, i_0, i_1, j_0, j_1, i_lit, j_lit, i_n, iI_add, iI_sub, iI_mul, iI_neg, jI_add, jI_sub, jI_mul, jI_neg, sh_1, an_1, xo_1, di_p, dj_p, i_64A, i_64, j_32, lq_ge, lq_lt, lq_le, lq_gt, lq_eq, i_lt, i_le, i_eq, j_eq, iI_A, jI_J, iI_b, iI_v, jI_v, ↓reduceIte, ite_true, ite_false, Int.reduceEq, Int.reduceLT, Int.reduceLE, Int.reduceAdd, Int.reduceSub, Int.reduceMul, Int.reduceNeg, not_true_eq_false, not_false_eq_true, agA hA, agJA hA, ag hA, v_nJ, v_nW, v_nD, v_toD, v_px, v_py, v_rg, v_kd, v_ft, v_on, v_bg, v_en, @nJ_ M0, @nW_ M0, @nD_ M0, @toD_ M0, @px_ M0, @py_ M0, @rg_ M0, @kd_ M0, @ft_ M0, @on_ M0, bt_, hlt, mt, q', td, p1, i1, s581, mp1, p2, hr]
            · exact Or.inl ⟨rfl, Or.inr (by omega)⟩
          · refine ⟨1, M2, fun r hr => ?_, (k1.trans k2), L2, by omega, ?_⟩
            · refine s_Model_letsDown_58 hF hg ?_
              simp (disch := (first | omega | decide | assumption)) only [ltm_s, ok_n, rd_i, rd_j, fd_i, fd_j, wr_i, wr_j, fw_i, fw_j, ci_s, cj_s, cv_s, dv_n, dw_n, rt_1, rt_b, rt_20, rt_21, okb_0, okb_1, okb_b, nar_0, nar_1, nar_b, i_0, i_1, j_0, j_1, i_lit, j_lit, i_n, iI_add, iI_sub, iI_mul, iI_neg, jI_add, jI_sub, jI_mul, jI_neg, sh_1, an_1, xo_1, di_p, dj_p, i_64A, i_64, j_32, lq_ge, lq_lt, lq_le, lq_gt, lq_eq, i_lt, i_le, i_eq, j_eq, iI_A, jI_J, iI_b, iI_v, jI_v, ↓reduceIte, ite_true, ite_false, Int.reduceEq, Int.reduceLT, Int.reduceLE, Int.reduceAdd, Int.reduceSub, Int.reduceMul, Int.reduceNeg, not_true_eq_false, not_false_eq_true, agA hA, agJA hA, ag hA, v_nJ, v_nW, v_nD, v_toD, v_px, v_py, v_rg, v_kd, v_ft, v_on, v_bg, v_en, @nJ_ M0, @nW_ M0, @nD_ M0, @toD_ M0, @px_ M0, @py_ M0, @rg_ M0, @kd_ M0, @ft_ M0, @on_ M0, bt_, hlt, mt, q', td, p1, i1, s581, mp1, p2, hr]
            · exact Or.inl ⟨rfl, Or.inl rfl⟩
        · rcases hch with rfl | rfl
          · refine ⟨1, M2, fun r hr => ?_, (k1.trans k2), L2, by omega, ?_⟩
            · refine s_Model_letsDown_58 hF hg ?_
              simp (disch := (first | omega | decide | assumption)) only [ltm_s, ok_n, rd_i, rd_j, fd_i, fd_j, wr_i, wr_j, fw_i, fw_j, ci_s, cj_s, cv_s, dv_n, dw_n, rt_1, rt_b, rt_20, rt_21, okb_0, okb_1, okb_b, nar_0, nar_1, nar_b, i_0, i_1, j_0, j_1, i_lit, j_lit, i_n, iI_add, iI_sub, iI_mul, iI_neg, jI_add, jI_sub, jI_mul, jI_neg, sh_1, an_1, xo_1, di_p, dj_p, i_64A, i_64, j_32, lq_ge, lq_lt, lq_le, lq_gt, lq_eq, i_lt, i_le, i_eq, j_eq, iI_A, jI_J, iI_b, iI_v, jI_v, ↓reduceIte, ite_true, ite_false, Int.reduceEq, Int.reduceLT, Int.reduceLE, Int.reduceAdd, Int.reduceSub, Int.reduceMul, Int.reduceNeg, not_true_eq_false, not_false_eq_true, agA hA, agJA hA, ag hA, v_nJ, v_nW, v_nD, v_toD, v_px, v_py, v_rg, v_kd, v_ft, v_on, v_bg, v_en, @nJ_ M0, @nW_ M0, @nD_ M0, @toD_ M0, @px_ M0, @py_ M0, @rg_ M0, @kd_ M0, @ft_ M0, @on_ M0, bt_, hlt, mt, q', td, p1, i1, s581, mp1, p2, hr]
            · exact Or.inl ⟨rfl, Or.inr (by omega)⟩
          · refine ⟨1, M2, fun r hr => ?_, (k1.trans k2), L2, by omega, ?_⟩
            · refine s_Model_letsDown_58 hF hg ?_
              simp (disch := (first | omega | decide | assumption)) only [ltm_s, ok_n, rd_i, rd_j, fd_i, fd_j, wr_i, wr_j, fw_i, fw_j, ci_s, cj_s, cv_s, dv_n, dw_n, rt_1, rt_b, rt_20, rt_21, okb_0, okb_1, okb_b, nar_0, nar_1, nar_b, i_0, i_1, j_0, j_1, i_lit, j_lit, i_n, iI_add, iI_sub, iI_mul, iI_neg, jI_add, jI_sub, jI_mul, jI_neg, sh_1, an_1, xo_1, di_p, dj_p, i_64A, i_64, j_32, lq_ge, lq_lt, lq_le, lq_gt, lq_eq, i_lt, i_le, i_eq, j_eq, iI_A, jI_J, iI_b, iI_v, jI_v, ↓reduceIte, ite_true, ite_false, Int.reduceEq, Int.reduceLT, Int.reduceLE, Int.reduceAdd, Int.reduceSub, Int.reduceMul, Int.reduceNeg, not_true_eq_false, not_false_eq_true, agA hA, agJA hA, ag hA, v_nJ, v_nW, v_nD, v_toD, v_px, v_py, v_rg, v_kd, v_ft, v_on, v_bg, v_en, @nJ_ M0, @nW_ M0, @nD_ M0, @toD_ M0, @px_ M0, @py_ M0, @rg_ M0, @kd_ M0, @ft_ M0, @on_ M0, bt_, hlt, mt, q', td, p1, i1, s581, mp1, p2, hr]
            · exact Or.inl ⟨rfl, Or.inl rfl⟩
      · rcases o1 with ⟨rfl, o1⟩ | ⟨rfl, rfl, o1⟩
        · rcases hch with rfl | rfl
          · refine ⟨1, M2, fun r hr => ?_, (k1), L1, by omega, ?_⟩
            · refine s_Model_letsDown_58 hF hg ?_
              simp (disch := (first | omega | decide | assumption)) only [ltm_s, ok_n, rd_i, rd_j, fd_i, fd_j, wr_i, wr_j, fw_i, fw_j, ci_s, cj_s, cv_s, dv_n, dw_n, rt_1, rt_b, rt_20, rt_21, okb_0, okb_1, okb_b, nar_0, nar_1, nar_b, i_0, i_1, j_0, j_1, i_lit, j_lit, i_n, iI_add, iI_sub, iI_mul, iI_neg, jI_add, jI_sub, jI_mul, jI_neg, sh_1, an_1, xo_1, di_p, dj_p, i_64A, i_64, j_32, lq_ge, lq_lt, lq_le, lq_gt, lq_eq, i_lt, i_le, i_eq, j_eq, iI_A, jI_J, iI_b, iI_v, jI_v, ↓reduceIte, ite_true, ite_false, Int.reduceEq, Int.reduceLT, Int.reduceLE, Int.reduceAdd, Int.reduceSub, Int.reduceMul, Int.reduceNeg, not_true_eq_false, not_false_eq_true, agA hA, agJA hA, ag hA, v_nJ, v_nW, v_nD, v_toD, v_px, v_py, v_rg, v_kd, v_ft, v_on, v_bg, v_en, @nJ_ M0, @nW_ M0, @nD_ M0, @toD_ M0, @px_ M0, @py_ M0, @rg_ M0, @kd_ M0, @ft_ M0, @on_ M0, bt_, hlt, mt, q', td, p1, i1, s581, mp1, p2, hr]
            · exact Or.inl ⟨rfl, Or.inr (by omega)⟩
          · refine ⟨1, M2, fun r hr => ?_, (k1), L1, by omega, ?_⟩
            · refine s_Model_letsDown_58 hF hg ?_
              simp (disch := (first | omega | decide | assumption)) only [ltm_s, ok_n, rd_i, rd_j, fd_i, fd_j, wr_i, wr_j, fw_i, fw_j, ci_s, cj_s, cv_s, dv_n, dw_n, rt_1, rt_b, rt_20, rt_21, okb_0, okb_1, okb_b, nar_0, nar_1, nar_b, i_0, i_1, j_0, j_1, i_lit, j_lit, i_n, iI_add, iI_sub, iI_mul, iI_neg, jI_add, jI_sub, jI_mul, jI_neg, sh_1, an_1, xo_1, di_p, dj_p, i_64A, i_64, j_32, lq_ge, lq_lt, lq_le, lq_gt, lq_eq, i_lt, i_le, i_eq, j_eq, iI_A, jI_J, iI_b, iI_v, jI_v, ↓reduceIte, ite_true, ite_false, Int.reduceEq, Int.reduceLT, Int.reduceLE, Int.reduceAdd, Int.reduceSub, Int.reduceMul, Int.reduceNeg, not_true_eq_false, not_false_eq_true, agA hA, agJA hA, ag hA, v_nJ, v_nW, v_nD, v_toD, v_px, v_py, v_rg, v_kd, v_ft, v_on, v_bg, v_en, @nJ_ M0, @nW_ M0, @nD_ M0, @toD_ M0, @px_ M0, @py_ M0, @rg_ M0, @kd_ M0, @ft_ M0, @on_ M0, bt_, hlt, mt, q', td, p1, i1, s581, mp1, p2, hr]
            · exact Or.inl ⟨rfl, Or.inl rfl⟩
        · rcases hch with rfl | rfl
          · refine ⟨0, M2, fun r hr => ?_, (k1), L1, by omega, ?_⟩
            · refine s_Model_letsDown_58 hF hg ?_
              simp (disch := (first | omega | decide | assumption)) only [ltm_s, ok_n, rd_i, rd_j, fd_i, fd_j, wr_i, wr_j, fw_i, fw_j, ci_s, cj_s, cv_s, dv_n, dw_n, rt_1, rt_b, rt_20, rt_21, okb_0, okb_1, okb_b, nar_0, nar_1, nar_b, i_0, i_1, j_0, j_1, i_lit, j_lit, i_n, iI_add, iI_sub, iI_mul, iI_neg, jI_add, jI_sub, jI_mul, jI_neg, sh_1, an_1, xo_1, di_p, dj_p, i_64A, i_64, j_32, lq_ge, lq_lt, lq_le, lq_gt, lq_eq, i_lt, i_le, i_eq, j_eq, iI_A, jI_J, iI_b, iI_v, jI_v, ↓reduceIte, ite_true, ite_false, Int.reduceEq, Int.reduceLT, Int.reduceLE, Int.reduceAdd, Int.reduceSub, Int.reduceMul, Int.reduceNeg, not_true_eq_false, not_false_eq_true, agA hA, agJA hA, ag hA, v_nJ, v_nW, v_nD, v_toD, v_px, v_py, v_rg, v_kd, v_ft, v_on, v_bg, v_en, @nJ_ M0, @nW_ M0, @nD_ M0, @toD_ M0, @px_ M0, @py_ M0, @rg_ M0, @kd_ M0, @ft_ M0, @on_ M0, bt_, hlt, mt, q', td, p1, i1, s581, mp1, p2, hr]
            · exact Or.inr ⟨rfl, rfl, rfl, fun _ => ⟨fun _ => o1, fun _ => o2⟩⟩
          · refine ⟨1, M2, fun r hr => ?_, (k1), L1, by omega, ?_⟩
            · refine s_Model_letsDown_58 hF hg ?_
              simp (disch := (first | omega | decide | assumption)) only [ltm_s, ok_n, rd_i, rd_j, fd_i, fd_j, wr_i, wr_j, fw_i, fw_j, ci_s, cj_s, cv_s, dv_n, dw_n, rt_1, rt_b, rt_20, rt_21, okb_0, okb_1, okb_b, nar_0, nar_1, nar_b, i_0, i_1, j_0, j_1, i_lit, j_lit, i_n, iI_add, iI_sub, iI_mul, iI_neg, jI_add, jI_sub, jI_mul, jI_neg, sh_1, an_1, xo_1, di_p, dj_p, i_64A, i_64, j_32, lq_ge, lq_lt, lq_le, lq_gt, lq_eq, i_lt, i_le, i_eq, j_eq, iI_A, jI_J, iI_b, iI_v, jI_v, ↓reduceIte, ite_true, ite_false, Int.reduceEq, Int.reduceLT, Int.reduceLE, Int.reduceAdd, Int.reduceSub, Int.reduceMul, Int.reduceNeg, not_true_eq_false, not_false_eq_true, agA hA, agJA hA, ag hA, v_nJ, v_nW, v_nD, v_toD, v_px, v_py, v_rg, v_kd, v_ft, v_on, v_bg, v_en, @nJ_ M0, @nW_ M0, @nD_ M0, @toD_ M0, @px_ M0, @py_ M0, @rg_ M0, @kd_ M0, @ft_ M0, @on_ M0, bt_, hlt, mt, q', td, p1, i1, s581, mp1, p2, hr]
            · exact Or.inl ⟨rfl, Or.inl rfl⟩
  · have mp1 := m_priceOf hF hg hA h2 (w := k / 2) (by omega) (by omega) u0 u1
    rcases fin2 M hA hs hL with ⟨i1, i2⟩ | ⟨i1, i3, x2, M2, p2, k2, L2, o2⟩
    · rcases hch with rfl | rfl
      · refine ⟨0, M, fun r hr => ?_, Ke.refl, hL, by omega, ?_⟩
        · refine s_Model_letsDown_58 hF hg ?_
          simp (disch := (first | omega | decide | assumption)) only [ltm_s, ok_n, rd_i, rd_j, fd_i, fd_j, wr_i, wr_j, fw_i, fw_j, ci_s, cj_s, cv_s, dv_n, dw_n, rt_1, rt_b, rt_20, rt_21, okb_0, okb_1, okb_b, nar_0, nar_1, nar_b, i_0, i_1, j_0, j_1, i_lit, j_lit, i_n, iI_add, iI_sub, iI_mul, iI_neg, jI_add, jI_sub, jI_mul, jI_neg, sh_1, an_1, xo_1, di_p, dj_p, i_64A, i_64, j_32, lq_ge, lq_lt, lq_le, lq_gt, lq_eq, i_lt, i_le, i_eq, j_eq, iI_A, jI_J, iI_b, iI_v, jI_v, ↓reduceIte, ite_true, ite_false, Int.reduceEq, Int.reduceLT, Int.reduceLE, Int.reduceAdd, Int.reduceSub, Int.reduceMul, Int.reduceNeg, not_true_eq_false, not_false_eq_true, agA hA, agJA hA, ag hA, v_nJ, v_nW, v_nD, v_toD, v_px, v_py, v_rg, v_kd, v_ft, v_on, v_bg, v_en, @nJ_ M0, @nW_ M0, @nD_ M0, @toD_ M0, @px_ M0, @py_ M0, @rg_ M0, @kd_ M0, @ft_ M0, @on_ M0, bt_, hlt, mt, q, i1, s58, mp1, hr]
        · exact Or.inr ⟨rfl, rfl, rfl, fun _ => ⟨fun z => absurd z q, fun z => absurd i2 z⟩⟩
      · refine ⟨1, M, fun r hr => ?_, Ke.refl, hL, by omega, ?_⟩
        · refine s_Model_letsDown_58 hF hg ?_
          simp (disch := (first | omega | decide | assumption)) only [ltm_s, ok_n, rd_i, rd_j, fd_i, fd_j, wr_i, wr_j, fw_i, fw_j, ci_s, cj_s, cv_s, dv_n, dw_n, rt_1, rt_b, rt_20, rt_21, okb_0, okb_1, okb_b, nar_0, nar_1, nar_b, i_0, i_1, j_0, j_1, i_lit, j_lit, i_n, iI_add, iI_sub, iI_mul, iI_neg, jI_add, jI_sub, jI_mul, jI_neg, sh_1, an_1, xo_1, di_p, dj_p, i_64A, i_64, j_32, lq_ge, lq_lt, lq_le, lq_gt, lq_eq, i_lt, i_le, i_eq, j_eq, iI_A, jI_J, iI_b, iI_v, jI_v, ↓reduceIte, ite_true, ite_false, Int.reduceEq, Int.reduceLT, Int.reduceLE, Int.reduceAdd, Int.reduceSub, Int.reduceMul, Int.reduceNeg, not_true_eq_false, not_false_eq_true, agA hA, agJA hA, ag hA, v_nJ, v_nW, v_nD, v_toD, v_px, v_py, v_rg, v_kd, v_ft, v_on, v_bg, v_en, @nJ_ M0, @nW_ M0, @nD_ M0, @toD_ M0, @px_ M0, @py_ M0, @rg_ M0, @kd_ M0, @ft_ M0, @on_ M0, bt_, hlt, mt, q, i1, s58, mp1, hr]
        · exact Or.inl ⟨rfl, Or.inl rfl⟩
    · rcases o2 with ⟨rfl, o2⟩ | ⟨rfl, rfl, o2⟩
      · rcases hch with rfl | rfl
        · refine ⟨1, M2, fun r hr => ?_, (Ke.refl.trans k2), L2, by omega, ?_⟩
          · refine s_Model_letsDown_58 hF hg ?_
            simp (disch := (first | omega | decide | assumption)) only [ltm_s, ok_n, rd_i, rd_j, fd_i, fd_j, wr_i, wr_j, fw_i, fw_j, ci_s, cj_s, cv_s, dv_n, dw_n, rt_1, rt_b, rt_20, rt_21, okb_0, okb_1, okb_b, nar_0, nar_1, nar_b, i_0, i_1, j_0, j_1, i_lit, j_lit, i_n, iI_add, iI_sub, iI_mul, iI_neg, jI_add, jI_sub, jI_mul, jI_neg, sh_1, an_1, xo_1, di_p, dj_p, i_64A, i_64, j_32, lq_ge, lq_lt, lq_le, lq_gt, lq_eq, i_lt, i_le, i_eq, j_eq, iI_A, jI_J, iI_b, iI_v, jI_v, ↓reduceIte, ite_true, ite_false, Int.reduceEq, Int.reduceLT, Int.reduceLE, Int.reduceAdd, Int.reduceSub, Int.reduceMul, Int.reduceNeg, not_true_eq_false, not_false_eq_true, agA hA, agJA hA, ag hA, v_nJ, v_nW, v_nD, v_toD, v_px, v_py, v_rg, v_kd, v_ft, v_on, v_bg, v_en, @nJ_ M0, @nW_ M0, @nD_ M0, @toD_ M0, @px_ M0, @py_ M0, @rg_ M0, @kd_ M0, @ft_ M0, @on_ M0, bt_, hlt, mt, q, i1, s58, mp1, p2, hr]
          · exact Or.inl ⟨rfl, Or.inr (by omega)⟩
        · refine ⟨1, M2, fun r hr => ?_, (Ke.refl.trans k2), L2, by omega, ?_⟩
          · refine s_Model_letsDown_58 hF hg ?_
            simp (disch := (first | omega | decide | assumption)) only [ltm_s, ok_n, rd_i, rd_j, fd_i, fd_j, wr_i, wr_j, fw_i, fw_j, ci_s, cj_s, cv_s, dv_n, dw_n, rt_1, rt_b, rt_20, rt_21, okb_0, okb_1, okb_b, nar_0, nar_1, nar_b, i_0, i_1, j_0, j_1, i_lit, j_lit, i_n, iI_add, iI_sub, iI_mul, iI_neg, jI_add, jI_sub, jI_mul, jI_neg, sh_1, an_1, xo_1, di_p, dj_p, i_64A, i_64, j_32, lq_ge, lq_lt, lq_le, lq_gt, lq_eq, i_lt, i_le, i_eq, j_eq, iI_A, jI_J, iI_b, iI_v, jI_v, ↓reduceIte, ite_true, ite_false, Int.reduceEq, Int.reduceLT, Int.reduceLE, Int.reduceAdd, Int.reduceSub, Int.reduceMul, Int.reduceNeg, not_true_eq_false, not_false_eq_true, agA hA, agJA hA, ag hA, v_nJ, v_nW, v_nD, v_toD, v_px, v_py, v_rg, v_kd, v_ft, v_on, v_bg, v_en, @nJ_ M0, @nW_ M0, @nD_ M0, @toD_ M0, @px_ M0, @py_ M0, @rg_ M0, @kd_ M0, @ft_ M0, @on_ M0, bt_, hlt, mt, q, i1, s58, mp1, p2, hr]
          · exact Or.inl ⟨rfl, Or.inl rfl⟩
      · rcases hch with rfl | rfl
        · refine ⟨0, M2, fun r hr => ?_, Ke.refl, hL, by omega, ?_⟩
          · refine s_Model_letsDown_58 hF hg ?_
            simp (disch := (first | omega | decide | assumption)) only [ltm_s, ok_n, rd_i, rd_j, fd_i, fd_j, wr_i, wr_j, fw_i, fw_j, ci_s, cj_s, cv_s, dv_n, dw_n, rt_1, rt_b, rt_20, rt_21, okb_0, okb_1, okb_b, nar_0, nar_1, nar_b, i_0, i_1, j_0, j_1, i_lit, j_lit, i_n, iI_add, iI_sub, iI_mul, iI_neg, jI_add, jI_sub, jI_mul, jI_neg, sh_1, an_1, xo_1, di_p, dj_p, i_64A, i_64, j_32, lq_ge, lq_lt, lq_le, lq_gt, lq_eq, i_lt, i_le, i_eq, j_eq, iI_A, jI_J, iI_b, iI_v, jI_v, ↓reduceIte, ite_true, ite_false, Int.reduceEq, Int.reduceLT, Int.reduceLE, Int.reduceAdd, Int.reduceSub, Int.reduceMul, Int.reduceNeg, not_true_eq_false, not_false_eq_true, agA hA, agJA hA, ag hA, v_nJ, v_nW, v_nD, v_toD, v_px, v_py, v_rg, v_kd, v_ft, v_on, v_bg, v_en, @nJ_ M0, @nW_ M0, @nD_ M0, @toD_ M0, @px_ M0, @py_ M0, @rg_ M0, @kd_ M0, @ft_ M0, @on_ M0, bt_, hlt, mt, q, i1, s58, mp1, p2, hr]
          · exact Or.inr ⟨rfl, rfl, rfl, fun _ => ⟨fun z => absurd z q, fun _ => o2⟩⟩
        · refine ⟨1, M2, fun r hr => ?_, Ke.refl, hL, by omega, ?_⟩
          · refine s_Model_letsDown_58 hF hg ?_
            simp (disch := (first | omega | decide | assumption)) only [ltm_s, ok_n, rd_i, rd_j, fd_i, fd_j, wr_i, wr_j, fw_i, fw_j, ci_s, cj_s, cv_s, dv_n, dw_n, rt_1, rt_b, rt_20, rt_21, okb_0, okb_1, okb_b, nar_0, nar_1, nar_b, i_0, i_1, j_0, j_1, i_lit, j_lit, i_n, iI_add, iI_sub, iI_mul, iI_neg, jI_add, jI_sub, jI_mul, jI_neg, sh_1, an_1, xo_1, di_p, dj_p, i_64A, i_64, j_32, lq_ge, lq_lt, lq_le, lq_gt, lq_eq, i_lt, i_le, i_eq, j_eq, iI_A, jI_J, iI_b, iI_v, jI_v, ↓reduceIte, ite_true, ite_false, Int.reduceEq, Int.reduceLT, Int.reduceLE, Int.reduceAdd, Int.reduceSub, Int.reduceMul, Int.reduceNeg, not_true_eq_false, not_false_eq_true, agA hA, agJA hA, ag hA, v_nJ, v_nW, v_nD, v_toD, v_px, v_py, v_rg, v_kd, v_ft, v_on, v_bg, v_en, @nJ_ M0, @nW_ M0, @nD_ M0, @toD_ M0, @px_ M0, @py_ M0, @rg_ M0, @kd_ M0, @ft_ M0, @on_ M0, bt_, hlt, mt, q, i1, s58, mp1, p2, hr]
          · exact Or.inl ⟨rfl, Or.inl rfl⟩
end Lo
