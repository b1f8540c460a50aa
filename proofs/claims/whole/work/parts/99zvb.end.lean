/-! SAY, asked of both: the end -/
section Bzz
variable {M N X Y : am_M} {g : am_G} {F : am_FT}
theorem b_say (hF : F = am_F T0 g) (hg : GG g) (hI : Inv M) {a b hour : Int} (a1 : -2147483648 ≤ a) (a2 : a < 2147483648) (b1 : -2147483648 ≤ b) (b2 : b < 2147483648) (u1 : -2147483648 ≤ hour) (u2 : hour < 2147483648) :
    ∃ (r : Int) (M1 M2 : am_M), F 263 0 [.ref 0, .int (iI a), .int (iI b), .int (iI hour)] [] M = some (some (.int (iI r)), M1) ∧ F 252 0 [.ref 219, .int (iI a), .int (iI b), .int (iI hour)] [] M1 = some (some (.int (iI r)), M2) ∧ Inv M2 := by
  have hI' := hI
  obtain ⟨h1, h2, h3, h4, h5, h6, h7, h8, h9, h10, h11, h12, h13, h14, h15, h16, h17, h18, h19, hm, ht⟩ := hI
  have hd := h4.1
  have hn := h2.1
  have cd := c_noDoors hF hg (Ag.refl M) h4 a1 a2 b1 b2
  have mdA := m_isDoor hF hg (Ag.refl M) h4 a1 a2
  have mdB := m_isDoor hF hg (Ag.refl M) h4 b1 b2
  have ch := c_noHour hF hg (M := M) u1 u2
  have mh := m_isHour hF hg (M := M) u1 u2
  by_cases q1 : (a < 0 ∨ nD M - 1 < a) ∨ b < 0 ∨ nD M - 1 < b
  · rw [bI_t q1] at cd
    refine ⟨-1, M, M, ?_, ?_, hI'⟩
    · refine s_RunSayer_say hF hg ?_
      simp (config := { maxSteps := 1000000 }) (disch := (first | omega | decide | assumption)) only [ltm_s, ok_n, rd_i, rd_j, fd_i, fd_j, wr_i, wr_j, fw_i, fw_j, ci_s, cj_s, cv_s, dv_n, dw_n, rt_1, rt_b, rt_20, rt_21, okb_0, okb_1, okb_b, nar_0, nar_1, nar_b, i_0, i_1, j_0, j_1, i_lit, j_lit, i_n, iI_add, iI_sub, iI_mul, iI_neg, jI_add, jI_sub, jI_mul, jI_neg, sh_1, an_1, xo_1, di_p, dj_p, i_64A, i_64, j_32, lq_ge, lq_lt, lq_le, lq_gt, lq_eq, i_lt, i_le, i_eq, j_eq, iI_A, jI_J, iI_b, iI_v, jI_v, ↓reduceIte, ite_true, ite_false, Int.reduceEq, Int.reduceLT, Int.reduceLE, Int.reduceAdd, Int.reduceSub, Int.reduceMul, Int.reduceNeg, not_true_eq_false, not_false_eq_true, cd]
    · by_cases q2 : 0 ≤ a ∧ a ≤ nD M - 1
      · rw [bI_t q2] at mdA
        rw [bI_f (by omega)] at mdB
        refine s_Model_say hF hg ?_
        simp (config := { maxSteps := 1000000 }) (disch := (first | omega | decide | assumption)) only [ltm_s, ok_n, rd_i, rd_j, fd_i, fd_j, wr_i, wr_j, fw_i, fw_j, ci_s, cj_s, cv_s, dv_n, dw_n, rt_1, rt_b, rt_20, rt_21, okb_0, okb_1, okb_b, nar_0, nar_1, nar_b, i_0, i_1, j_0, j_1, i_lit, j_lit, i_n, iI_add, iI_sub, iI_mul, iI_neg, jI_add, jI_sub, jI_mul, jI_neg, sh_1, an_1, xo_1, di_p, dj_p, i_64A, i_64, j_32, lq_ge, lq_lt, lq_le, lq_gt, lq_eq, i_lt, i_le, i_eq, j_eq, iI_A, jI_J, iI_b, iI_v, jI_v, ↓reduceIte, ite_true, ite_false, Int.reduceEq, Int.reduceLT, Int.reduceLE, Int.reduceAdd, Int.reduceSub, Int.reduceMul, Int.reduceNeg, not_true_eq_false, not_false_eq_true, mdA, mdB]
      · rw [bI_f q2] at mdA
        refine s_Model_say hF hg ?_
        simp (config := { maxSteps := 1000000 }) (disch := (first | omega | decide | assumption)) only [ltm_s, ok_n, rd_i, rd_j, fd_i, fd_j, wr_i, wr_j, fw_i, fw_j, ci_s, cj_s, cv_s, dv_n, dw_n, rt_1, rt_b, rt_20, rt_21, okb_0, okb_1, okb_b, nar_0, nar_1, nar_b, i_0, i_1, j_0, j_1, i_lit, j_lit, i_n, iI_add, iI_sub, iI_mul, iI_neg, jI_add, jI_sub, jI_mul, jI_neg, sh_1, an_1, xo_1, di_p, dj_p, i_64A, i_64, j_32, lq_ge, lq_lt, lq_le, lq_gt, lq_eq, i_lt, i_le, i_eq, j_eq, iI_A, jI_J, iI_b, iI_v, jI_v, ↓reduceIte, ite_true, ite_false, Int.reduceEq, Int.reduceLT, Int.reduceLE, Int.reduceAdd, Int.reduceSub, Int.reduceMul, Int.reduceNeg, not_true_eq_false, not_false_eq_true, mdA]
  rw [bI_f q1] at cd
  have da : 0 ≤ a ∧ a ≤ nD M - 1 := by omega
  have db : 0 ≤ b ∧ b ≤ nD M - 1 := by omega
  rw [bI_t da] at mdA
  rw [bI_t db] at mdB
  by_cases q2 : a = b
  · refine ⟨-2, M, M, ?_, ?_, hI'⟩
    · subst q2
      refine s_RunSayer_say hF hg ?_
      simp (config := { maxSteps := 1000000 }) (disch := (first | omega | decide | assumption)) only [ltm_s, ok_n, rd_i, rd_j, fd_i, fd_j, wr_i, wr_j, fw_i, fw_j, ci_s, cj_s, cv_s, dv_n, dw_n, rt_1, rt_b, rt_20, rt_21, okb_0, okb_1, okb_b, nar_0, nar_1, nar_b, i_0, i_1, j_0, j_1, i_lit, j_lit, i_n, iI_add, iI_sub, iI_mul, iI_neg, jI_add, jI_sub, jI_mul, jI_neg, sh_1, an_1, xo_1, di_p, dj_p, i_64A, i_64, j_32, lq_ge, lq_lt, lq_le, lq_gt, lq_eq, i_lt, i_le, i_eq, j_eq, iI_A, jI_J, iI_b, iI_v, jI_v, ↓reduceIte, ite_true, ite_false, Int.reduceEq, Int.reduceLT, Int.reduceLE, Int.reduceAdd, Int.reduceSub, Int.reduceMul, Int.reduceNeg, not_true_eq_false, not_false_eq_true, cd]
    · subst q2
      refine s_Model_say hF hg ?_
      simp (config := { maxSteps := 1000000 }) (disch := (first | omega | decide | assumption)) only [ltm_s, ok_n, rd_i, rd_j, fd_i, fd_j, wr_i, wr_j, fw_i, fw_j, ci_s, cj_s, cv_s, dv_n, dw_n, rt_1, rt_b, rt_20, rt_21, okb_0, okb_1, okb_b, nar_0, nar_1, nar_b, i_0, i_1, j_0, j_1, i_lit, j_lit, i_n, iI_add, iI_sub, iI_mul, iI_neg, jI_add, jI_sub, jI_mul, jI_neg, sh_1, an_1, xo_1, di_p, dj_p, i_64A, i_64, j_32, lq_ge, lq_lt, lq_le, lq_gt, lq_eq, i_lt, i_le, i_eq, j_eq, iI_A, jI_J, iI_b, iI_v, jI_v, ↓reduceIte, ite_true, ite_false, Int.reduceEq, Int.reduceLT, Int.reduceLE, Int.reduceAdd, Int.reduceSub, Int.reduceMul, Int.reduceNeg, not_true_eq_false, not_false_eq_true, mdA]
  by_cases q3 : hour < 0 ∨ 23 < hour
  · rw [bI_t q3] at ch
    rw [bI_f (by omega)] at mh
    refine ⟨-2, M, M, ?_, ?_, hI'⟩
    · refine s_RunSayer_say hF hg ?_
      simp (config := { maxSteps := 1000000 }) (disch := (first | omega | decide | assumption)) only [ltm_s, ok_n, rd_i, rd_j, fd_i, fd_j, wr_i, wr_j, fw_i, fw_j, ci_s, cj_s, cv_s, dv_n, dw_n, rt_1, rt_b, rt_20, rt_21, okb_0, okb_1, okb_b, nar_0, nar_1, nar_b, i_0, i_1, j_0, j_1, i_lit, j_lit, i_n, iI_add, iI_sub, iI_mul, iI_neg, jI_add, jI_sub, jI_mul, jI_neg, sh_1, an_1, xo_1, di_p, dj_p, i_64A, i_64, j_32, lq_ge, lq_lt, lq_le, lq_gt, lq_eq, i_lt, i_le, i_eq, j_eq, iI_A, jI_J, iI_b, iI_v, jI_v, ↓reduceIte, ite_true, ite_false, Int.reduceEq, Int.reduceLT, Int.reduceLE, Int.reduceAdd, Int.reduceSub, Int.reduceMul, Int.reduceNeg, not_true_eq_false, not_false_eq_true, cd, q2, ch]
    · refine s_Model_say hF hg ?_
      simp (config := { maxSteps := 1000000 }) (disch := (first | omega | decide | assumption)) only [ltm_s, ok_n, rd_i, rd_j, fd_i, fd_j, wr_i, wr_j, fw_i, fw_j, ci_s, cj_s, cv_s, dv_n, dw_n, rt_1, rt_b, rt_20, rt_21, okb_0, okb_1, okb_b, nar_0, nar_1, nar_b, i_0, i_1, j_0, j_1, i_lit, j_lit, i_n, iI_add, iI_sub, iI_mul, iI_neg, jI_add, jI_sub, jI_mul, jI_neg, sh_1, an_1, xo_1, di_p, dj_p, i_64A, i_64, j_32, lq_ge, lq_lt, lq_le, lq_gt, lq_eq, i_lt, i_le, i_eq, j_eq, iI_A, jI_J, iI_b, iI_v, jI_v, ↓reduceIte, ite_true, ite_false, Int.reduceEq, Int.reduceLT, Int.reduceLE, Int.reduceAdd, Int.reduceSub, Int.reduceMul, Int.reduceNeg, not_true_eq_false, not_false_eq_true, mdA, mdB, q2, mh]
  rw [bI_f q3] at ch
  have hv : 0 ≤ hour ∧ hour ≤ 23 := by omega
  rw [bI_t hv] at mh
  have s13 := h13.1
  have r9 := h13.2.1
  by_cases q4 : A M 219 37 = 10
  · refine ⟨-4, M, M, ?_, ?_, hI'⟩
    · have u : ¬ A M 219 37 < 10 := by omega
      refine s_RunSayer_say hF hg ?_
      simp (config := { maxSteps := 1000000 }) (disch := (first | omega | decide | assumption)) only [ltm_s, ok_n, rd_i, rd_j, fd_i, fd_j, wr_i, wr_j, fw_i, fw_j, ci_s, cj_s, cv_s, dv_n, dw_n, rt_1, rt_b, rt_20, rt_21, okb_0, okb_1, okb_b, nar_0, nar_1, nar_b, i_0, i_1, j_0, j_1, i_lit, j_lit, i_n, iI_add, iI_sub, iI_mul, iI_neg, jI_add, jI_sub, jI_mul, jI_neg, sh_1, an_1, xo_1, di_p, dj_p, i_64A, i_64, j_32, lq_ge, lq_lt, lq_le, lq_gt, lq_eq, i_lt, i_le, i_eq, j_eq, iI_A, jI_J, iI_b, iI_v, jI_v, ↓reduceIte, ite_true, ite_false, Int.reduceEq, Int.reduceLT, Int.reduceLE, Int.reduceAdd, Int.reduceSub, Int.reduceMul, Int.reduceNeg, not_true_eq_false, not_false_eq_true, cd, q2, ch, r9, u]
    · refine s_Model_say hF hg ?_
      simp (config := { maxSteps := 1000000 }) (disch := (first | omega | decide | assumption)) only [ltm_s, ok_n, rd_i, rd_j, fd_i, fd_j, wr_i, wr_j, fw_i, fw_j, ci_s, cj_s, cv_s, dv_n, dw_n, rt_1, rt_b, rt_20, rt_21, okb_0, okb_1, okb_b, nar_0, nar_1, nar_b, i_0, i_1, j_0, j_1, i_lit, j_lit, i_n, iI_add, iI_sub, iI_mul, iI_neg, jI_add, jI_sub, jI_mul, jI_neg, sh_1, an_1, xo_1, di_p, dj_p, i_64A, i_64, j_32, lq_ge, lq_lt, lq_le, lq_gt, lq_eq, i_lt, i_le, i_eq, j_eq, iI_A, jI_J, iI_b, iI_v, jI_v, ↓reduceIte, ite_true, ite_false, Int.reduceEq, Int.reduceLT, Int.reduceLE, Int.reduceAdd, Int.reduceSub, Int.reduceMul, Int.reduceNeg, not_true_eq_false, not_false_eq_true, mdA, mdB, q2, mh, q4]
  have u10 : A M 219 37 < 10 := by omega
  obtain ⟨x, tp, hc, hmt⟩ := tp_of h12
  have n36 := h12.1
  obtain ⟨ft, fd, rtd, m, how, wd, o1, o2, o3, o4, o5, oc, om⟩ := sp_all hF hg tp
  obtain ⟨N1, c1, c2, c3⟩ := oc M hc
  obtain ⟨N2, e2⟩ : ∃ y : am_M, y = W_ N1 61 1 0 := ⟨_, rfl⟩
  have cl : F 78 0 [.ref 61] [] N1 = some (none, N2) := by
    refine s_Tape_clear hF hg ?_
    simp (config := { maxSteps := 1000000 }) (disch := (first | omega | decide | assumption)) only [ltm_s, ok_n, rd_i, rd_j, fd_i, fd_j, wr_i, wr_j, fw_i, fw_j, ci_s, cj_s, cv_s, dv_n, dw_n, rt_1, rt_b, rt_20, rt_21, okb_0, okb_1, okb_b, nar_0, nar_1, nar_b, i_0, i_1, j_0, j_1, i_lit, j_lit, i_n, iI_add, iI_sub, iI_mul, iI_neg, jI_add, jI_sub, jI_mul, jI_neg, sh_1, an_1, xo_1, di_p, dj_p, i_64A, i_64, j_32, lq_ge, lq_lt, lq_le, lq_gt, lq_eq, i_lt, i_le, i_eq, j_eq, iI_A, jI_J, iI_b, iI_v, jI_v, ↓reduceIte, ite_true, ite_false, Int.reduceEq, Int.reduceLT, Int.reduceLE, Int.reduceAdd, Int.reduceSub, Int.reduceMul, Int.reduceNeg, not_true_eq_false, not_false_eq_true, e2.symm]
  have c12 : Ch [64, 65] [(61, 1), (61, 2), (63, 0), (63, 1), (63, 2)] M N2 := by rw [e2]; exact (c2.mono rfl).wm (Or.inr (by decide))
  have z61 : A N2 61 1 = 0 := by rw [e2]; exact A_Ws (by omega) (by omega)
  have mtc : ∀ X : am_M, (∀ z : Int, A X 246 z = A M 246 z) → A X 219 36 = A M 219 36 → Mt x (A M 219 36) X := fun X e1 e2 => ⟨e2, fun p p0 p1 => by rw [e1]; exact hmt.2 p p0 p1⟩
  have l14 := h14.2.2.1
  have l42 := h14.1
  by_cases qf : ft = -1
  · -- read without a fault
    subst qf
    obtain ⟨w1, w2, w3, w4⟩ := c3 rfl
    have f63 : ∀ z : Int, A N2 63 z = A N1 63 z := fun z => by rw [e2, A_Wn (by decide)]
    have nDe : nD N2 = nD M := c12.f (a := 219) (z := 10) rfl
    obtain ⟨R, eR⟩ : ∃ R : Int, R = A M 219 37 := ⟨_, rfl⟩
    have R0 : 0 ≤ R := by omega
    have R1 : R < 10 := by omega
    obtain ⟨rt, ert⟩ : ∃ rt : Nat, rt = 91 + 2 * R.toNat := ⟨_, rfl⟩
    obtain ⟨w, ew⟩ : ∃ w : Nat, w = 47 + 1 * R.toNat := ⟨_, rfl⟩
    have hr := rok_91 hg (r := R.toNat) (by omega)
    rw [← ert] at hr
    have g9 : A N2 0 9 = R := (c12.f (a := 0) (z := 9) rfl).trans (r9.trans eR.symm)
    obtain ⟨cd', lg, p1, p2, pc, pm⟩ := say_drive hF hg (c12.i1 rfl h1) (c12.i2 rfl h2) (c12.i3 rfl h3) (c12.i4 rfl h4) (c12.i5 rfl h5) (c12.i8 rfl h8) hr (by omega) (a := a) (b := b) (hour := hour) da.1 (by omega) db.1 (by omega) hv.1 (by omega) o4.1 o4.2 o2 o3 (fun j j0 j1 => ⟨(o5 j j0 j1).1, (o5 j j0 j1).2.1⟩)
    have om' : ∀ N : am_M, Mt x (A M 219 36) N → ∃ N' : am_M, F 236 0 [.ref 219] [] N = some (some (.int (iI (-1))), N') ∧ Ch [266, 267] [(219, 75), (219, 76), (219, 77), (219, 78), (219, 81), (219, 82)] N N' ∧ A N' 219 81 = 1 - fd ∧ A N' 219 82 = 1 - rtd ∧ A N' 219 78 = m ∧ ∀ j : Int, 0 ≤ j → j < m → A N' 266 j = how j ∧ J N' 267 j = wd j := fun N hN => by
      obtain ⟨N', y1, y2, y3⟩ := om N hN
      exact ⟨N', y1, y2, y3 rfl⟩
    have e42 : A N2 42 2 = A M 42 2 := c12.f (a := 42) (z := 2) rfl
    have e43 : ∀ z : Int, A N2 43 z = A M 43 z := fun z => c12.a rfl
    have e44 : ∀ z : Int, A N2 44 z = A M 44 z := fun z => c12.a rfl
    have e45 : ∀ z : Int, A N2 45 z = A M 45 z := fun z => c12.a rfl
    have l3' : L14 N2 := by
      unfold L14
      simp only [e42, e43, e44, e45]
      exact l14
    obtain ⟨yn, yy⟩ := say_C hF hg (c12.i1 rfl h1) (c12.i2 rfl h2) (c12.i4 rfl h4) (c12.i6 rfl h6) (c12.i7 rfl h7) (c12.i8 rfl h8) (c12.imk rfl hm) l3' (a := a) (b := b) (hour := hour) hv.1 (by omega) da.1 (by omega) db.1 (by omega) o4.1 o4.2 R0 R1 ert ew (by rw [e42, eR]; exact l42) g9 ((f63 0).trans w1) ((f63 1).trans w2) ((f63 2).trans w3) (fun j j0 j1 => by rw [e2, A_Wn (by decide), J_W]; exact w4 j j0 j1) p1 p2 pc
    by_cases qc : cd' = 0
    · obtain ⟨d1, d2, d3⟩ := p2 qc
      obtain ⟨N7, N8, N9, t1, t2, t3, t4, t5, t6, ⟨g0, g1, g2, g3, g5, g6, g7⟩, gl⟩ := yy qc
      obtain ⟨Y, y1, y2⟩ := say_K hF hg hI' c12 z61 da db q2 hv o2 o4.1 o4.2 eR.symm R0 R1 ert ew hmt qc d1 d2 d3 t2 t3 t4 t5 t6 g0 g1 g2 g3 g5 g6 g7 gl om' pm
      exact ⟨R, N9, Y, say_g hF hg a1 a2 b1 b2 q2 cd ch (by rw [r9]; exact u10) c1 cl t1, y1, y2⟩
    · obtain ⟨N6, t1, t2, t3⟩ := yn qc
      obtain ⟨Y, y1, y2⟩ := say_D hF hg hI' c12 z61 da db q2 hv o2 eR.symm R0 R1 ert hmt p1 qc t2 t3 om' pm
      exact ⟨-1000 - cd', N6, Y, say_g hF hg a1 a2 b1 b2 q2 cd ch (by rw [r9]; exact u10) c1 cl t1, y1, y2⟩
  · -- a fault in the text
    have f0 : 0 ≤ ft := by omega
    obtain ⟨X1, m1, m2, -⟩ := om N2 (mtc N2 (fun z => c12.a rfl) (c12.f (a := 219) (z := 36) rfl))
    obtain ⟨X2, eX⟩ : ∃ y : am_M, y = W_ X1 219 36 0 := ⟨_, rfl⟩
    have cF : Ch [64, 65, 266, 267] sQ M X2 := by
      rw [eX]
      exact ((c12.mono rfl).trans (m2.mono rfl)).wm (Or.inr (by decide))
    have nDe : nD N2 = nD M := c12.f (a := 219) (z := 10) rfl
    have mdA2 := m_isDoor hF hg (Ag.refl N2) (c12.i4 rfl h4) a1 a2
    have mdB2 := m_isDoor hF hg (Ag.refl N2) (c12.i4 rfl h4) b1 b2
    rw [bI_t (by rw [nDe]; exact da)] at mdA2
    rw [bI_t (by rw [nDe]; exact db)] at mdB2
    have mh2 := m_isHour hF hg (M := N2) u1 u2
    rw [bI_t hv] at mh2
    have e37 : ¬ A N2 219 37 = 10 := by rw [c12.f (a := 219) (z := 37) rfl]; exact q4
    refine ⟨-100 - ft, N2, X2, ?_, ?_, say_no hI' (cF.mono rfl) (cF.i13 rfl h13) (cF.imk rfl hm) (by rw [eX]; exact A_Ws (by omega) (by omega)) (by rw [eX, A_Wn (by decide), m2.f (a := 61) (z := 1) rfl]; exact z61)⟩
    · refine say_g hF hg a1 a2 b1 b2 q2 cd ch (by rw [r9]; exact u10) c1 cl ?_
      have nf : ¬ (iI ft : Int32) < 0 := by
        rw [show (0 : Int32) = iI 0 from rfl, i_lt, iI_v (by omega) (by omega), iI_v (by omega) (by omega)]
        omega
      unfold sayT
      rw [if_neg nf, show (-100 : Int32) = iI (-100) by decide, iI_sub]
      rfl
    · have nd8 := (c12.i4 rfl h4).1
      have hab' : ¬ (iI a : Int32) = iI b := by
        rw [i_eq, iI_v a1 a2, iI_v b1 b2]
        exact q2
      have q37 : ¬ fI N2 219 37 = 10 := by
        rw [fd_i, show (10 : Int32) = iI 10 from rfl, i_eq, iI_A, iI_v (by omega) (by omega)]
        exact e37
      have qm1 : ¬ (iI ft : Int32) = -1 := by
        rw [show (-1 : Int32) = iI (-1) by decide, i_eq, iI_v (by omega) (by omega), iI_v (by omega) (by omega)]
        exact qf
      have eX' : fW X1 219 36 0 = X2 := by
        rw [show (0 : Int32) = iI 0 from rfl, fw_i, eX]
      refine s_Model_say hF hg ?_
      refine ci_in mdA2 ?_
      rw [if_neg tr_n10]
      refine ci_in mdB2 ?_
      rw [if_neg tr_n10, if_neg hab']
      refine ci_in mh2 ?_
      rw [if_neg tr_n10, if_neg q37]
      refine ci_in m1 ?_
      rw [eX', ltm_s, if_neg qm1, show (-100 : Int32) = iI (-100) by decide, iI_sub]
      rfl
end Bzz
