/-! A TEST, read by the model -/
section Mt_
variable {M N : am_M} {g : am_G} {F : am_FT} {x : Int → Int} {n : Int}
/-- the sign and the number -/
theorem m_cmp (hF : F = am_F T0 g) (hg : GG g) (ht : Tp x n) (hm : Mt x n N) {q f : Int} (hq : A N 219 75 = q) (q0 : 0 ≤ q) (q1 : q ≤ n) (hb : A N 219 92 = 0) (f0 : 0 ≤ f) (f5 : f ≤ 5) {b s v p' : Int} (C : Cmp x q b s v p') :
    ∃ (u : Int) (N' : am_M), F 226 171 [.ref 219, .int (iI f)] [] N = some (some (.int (iI u)), N') ∧ Ch [] [(219, 75), (219, 92)] N N' ∧ A N' 219 75 = p' ∧ A N' 219 92 = 1 - b ∧ (b = 1 → u = 100000 * f + 10000 * s + v) := by
  have hn := ht.1
  have hh := m_here hF hg ht hm hq q0 q1
  have xr := ht.r q
  rcases C with ⟨a1, a2, a3, a4⟩ | ⟨a1, a2, a3⟩
  · have hqn : q < n := by
      by_cases y : q < n
      · exact y
      · have := ht.2.2 q (Or.inr (by omega)); omega
    obtain ⟨Y, eY⟩ : ∃ Y : am_M, Y = W_ N 219 75 (q + 1) := ⟨_, rfl⟩
    have cY : Ch [] [(219, 75), (219, 92)] N Y := by rw [eY]; exact Ch.refl.wm (Or.inr (by decide))
    obtain ⟨N', k1, k2, k3, k4⟩ := m_number hF hg ht (hm.c2 cY) (p := q + 1) (by rw [eY, A_Ws (by omega) (by omega)]) (by omega) (by omega) (by rw [eY, A_Wo (by omega) (by omega) (by omega)]; exact hb)
    have nv := nmv_r (x := x) (p := q + 1)
    have hb2 : A N' 219 92 = 1 - b := by
      rw [k4]
      rcases a4 with ⟨d1, d2, d3⟩ | ⟨d1, d2⟩
      · rw [if_pos d1]; omega
      · rw [if_neg d1]; omega
    have hv : b = 1 → nmv x 4 (q + 1) 0 = v := fun hb => by
      rcases a4 with ⟨d1, d2, d3⟩ | ⟨d1, d2⟩
      · exact d3.symm
      · omega
    refine ⟨100000 * f + 10000 * s + nmv x 4 (q + 1) 0, N', ?_, cY.trans k2, by rw [k3, a3], hb2, fun hb => by rw [hv hb]⟩
    refine s_Model_testRead_171 hF hg ?_
    by_cases e1 : x q = 61
    · rw [if_pos e1] at a2
      subst a2
      simp (config := { maxSteps := 1000000 }) (disch := (first | omega | decide | assumption)) only [ltm_s, ok_n, rd_i, rd_j, fd_i, fd_j, wr_i, wr_j, fw_i, fw_j, ci_s, cj_s, cv_s, dv_n, dw_n, rt_1, rt_b, rt_20, rt_21, okb_0, okb_1, okb_b, nar_0, nar_1, nar_b, i_0, i_1, j_0, j_1, i_lit, j_lit, i_n, iI_add, iI_sub, iI_mul, iI_neg, jI_add, jI_sub, jI_mul, jI_neg, sh_1, an_1, xo_1, di_p, dj_p, i_64A, i_64, j_32, lq_ge, lq_lt, lq_le, lq_gt, lq_eq, i_lt, i_le, i_eq, j_eq, iI_A, jI_J, iI_b, iI_v, jI_v, ↓reduceIte, ite_true, ite_false, Int.reduceEq, Int.reduceLT, Int.reduceLE, Int.reduceAdd, Int.reduceSub, Int.reduceMul, Int.reduceNeg, not_true_eq_false, not_false_eq_true, hh, hb, e1, hq, eY.symm, k1]
      first | done | (refine congrArg (fun z => some (some (Value.int (iI z)), N')) ?_; omega)
    · rw [if_neg e1] at a2
      by_cases e2 : x q = 60
      · rw [if_pos e2] at a2
        subst a2
        have d1 : ¬ (60 : Int) = 61 := by omega
        simp (config := { maxSteps := 1000000 }) (disch := (first | omega | decide | assumption)) only [ltm_s, ok_n, rd_i, rd_j, fd_i, fd_j, wr_i, wr_j, fw_i, fw_j, ci_s, cj_s, cv_s, dv_n, dw_n, rt_1, rt_b, rt_20, rt_21, okb_0, okb_1, okb_b, nar_0, nar_1, nar_b, i_0, i_1, j_0, j_1, i_lit, j_lit, i_n, iI_add, iI_sub, iI_mul, iI_neg, jI_add, jI_sub, jI_mul, jI_neg, sh_1, an_1, xo_1, di_p, dj_p, i_64A, i_64, j_32, lq_ge, lq_lt, lq_le, lq_gt, lq_eq, i_lt, i_le, i_eq, j_eq, iI_A, jI_J, iI_b, iI_v, jI_v, ↓reduceIte, ite_true, ite_false, Int.reduceEq, Int.reduceLT, Int.reduceLE, Int.reduceAdd, Int.reduceSub, Int.reduceMul, Int.reduceNeg, not_true_eq_false, not_false_eq_true, hh, hb, e2, d1, hq, eY.symm, k1]
        first | done | (refine congrArg (fun z => some (some (Value.int (iI z)), N')) ?_; omega)
      · rw [if_neg e2] at a2
        subst a2
        have e3 : x q = 62 := by omega
        have d1 : ¬ (62 : Int) = 61 := by omega
        have d2 : ¬ (62 : Int) = 60 := by omega
        simp (config := { maxSteps := 1000000 }) (disch := (first | omega | decide | assumption)) only [ltm_s, ok_n, rd_i, rd_j, fd_i, fd_j, wr_i, wr_j, fw_i, fw_j, ci_s, cj_s, cv_s, dv_n, dw_n, rt_1, rt_b, rt_20, rt_21, okb_0, okb_1, okb_b, nar_0, nar_1, nar_b, i_0, i_1, j_0, j_1, i_lit, j_lit, i_n, iI_add, iI_sub, iI_mul, iI_neg, jI_add, jI_sub, jI_mul, jI_neg, sh_1, an_1, xo_1, di_p, dj_p, i_64A, i_64, j_32, lq_ge, lq_lt, lq_le, lq_gt, lq_eq, i_lt, i_le, i_eq, j_eq, iI_A, jI_J, iI_b, iI_v, jI_v, ↓reduceIte, ite_true, ite_false, Int.reduceEq, Int.reduceLT, Int.reduceLE, Int.reduceAdd, Int.reduceSub, Int.reduceMul, Int.reduceNeg, not_true_eq_false, not_false_eq_true, hh, hb, e3, d1, d2, hq, eY.symm, k1]
        first | done | (refine congrArg (fun z => some (some (Value.int (iI z)), N')) ?_; omega)
  · obtain ⟨Y, eY⟩ : ∃ Y : am_M, Y = W_ N 219 92 1 := ⟨_, rfl⟩
    have cY : Ch [] [(219, 75), (219, 92)] N Y := by rw [eY]; exact Ch.refl.wm (Or.inr (by decide))
    obtain ⟨N', k1, k2, k3, k4⟩ := m_number1 hF hg (N := Y) (by rw [eY, A_Ws (by omega) (by omega)])
    have e1 : ¬ x q = 61 := fun h => a1 (Or.inl h)
    have e2 : ¬ x q = 60 := fun h => a1 (Or.inr (Or.inl h))
    have e3 : ¬ x q = 62 := fun h => a1 (Or.inr (Or.inr h))
    have k3' : A N' 219 75 = p' := by
      rw [k3, eY, A_Wo (by omega) (by omega) (by omega), hq, a3]
    refine ⟨100000 * f + 10000 * 2 + 0, N', ?_, cY.trans k2, k3', by omega, fun hb => by omega⟩
    refine s_Model_testRead_171 hF hg ?_
    simp (config := { maxSteps := 1000000 }) (disch := (first | omega | decide | assumption)) only [ltm_s, ok_n, rd_i, rd_j, fd_i, fd_j, wr_i, wr_j, fw_i, fw_j, ci_s, cj_s, cv_s, dv_n, dw_n, rt_1, rt_b, rt_20, rt_21, okb_0, okb_1, okb_b, nar_0, nar_1, nar_b, i_0, i_1, j_0, j_1, i_lit, j_lit, i_n, iI_add, iI_sub, iI_mul, iI_neg, jI_add, jI_sub, jI_mul, jI_neg, sh_1, an_1, xo_1, di_p, dj_p, i_64A, i_64, j_32, lq_ge, lq_lt, lq_le, lq_gt, lq_eq, i_lt, i_le, i_eq, j_eq, iI_A, jI_J, iI_b, iI_v, jI_v, ↓reduceIte, ite_true, ite_false, Int.reduceEq, Int.reduceLT, Int.reduceLE, Int.reduceAdd, Int.reduceSub, Int.reduceMul, Int.reduceNeg, not_true_eq_false, not_false_eq_true, hh, hb, e1, e2, e3, eY.symm, k1]
    first | done | (refine congrArg (fun z => some (some (Value.int (iI z)), N')) ?_; omega)
/-- after a fault in the name -/
theorem m_cmp1 (hF : F = am_F T0 g) (hg : GG g) (ht : Tp x n) (hm : Mt x n N) {q f : Int} (hq : A N 219 75 = q) (q0 : 0 ≤ q) (q1 : q ≤ n) (hb : A N 219 92 = 1) (f0 : 0 ≤ f) (f5 : f ≤ 5) :
    ∃ (u : Int) (N' : am_M), F 226 171 [.ref 219, .int (iI f)] [] N = some (some (.int (iI u)), N') ∧ Ch [] [(219, 75), (219, 92)] N N' ∧ A N' 219 75 = q ∧ A N' 219 92 = 1 := by
  have hn := ht.1
  have hh := m_here hF hg ht hm hq q0 q1
  have xr := ht.r q
  obtain ⟨Y, eY⟩ : ∃ Y : am_M, Y = W_ N 219 92 1 := ⟨_, rfl⟩
  have cY : Ch [] [(219, 75), (219, 92)] N Y := by rw [eY]; exact Ch.refl.wm (Or.inr (by decide))
  obtain ⟨N', k1, k2, k3, k4⟩ := m_number1 hF hg (N := Y) (by rw [eY, A_Ws (by omega) (by omega)])
  have k3' : A N' 219 75 = q := by
    rw [k3, eY, A_Wo (by omega) (by omega) (by omega), hq]
  have hb0 : ¬ (1 : Int) = 0 := by omega
  obtain ⟨s, hs⟩ : ∃ s : Int, s = (if x q = 61 then 0 else if x q = 60 then 1 else 2) := ⟨_, rfl⟩
  refine ⟨100000 * f + 10000 * s + 0, N', ?_, cY.trans k2, k3', k4⟩
  refine s_Model_testRead_171 hF hg ?_
  by_cases e1 : x q = 61
  · rw [if_pos e1] at hs
    subst hs
    simp (config := { maxSteps := 1000000 }) (disch := (first | omega | decide | assumption)) only [ltm_s, ok_n, rd_i, rd_j, fd_i, fd_j, wr_i, wr_j, fw_i, fw_j, ci_s, cj_s, cv_s, dv_n, dw_n, rt_1, rt_b, rt_20, rt_21, okb_0, okb_1, okb_b, nar_0, nar_1, nar_b, i_0, i_1, j_0, j_1, i_lit, j_lit, i_n, iI_add, iI_sub, iI_mul, iI_neg, jI_add, jI_sub, jI_mul, jI_neg, sh_1, an_1, xo_1, di_p, dj_p, i_64A, i_64, j_32, lq_ge, lq_lt, lq_le, lq_gt, lq_eq, i_lt, i_le, i_eq, j_eq, iI_A, jI_J, iI_b, iI_v, jI_v, ↓reduceIte, ite_true, ite_false, Int.reduceEq, Int.reduceLT, Int.reduceLE, Int.reduceAdd, Int.reduceSub, Int.reduceMul, Int.reduceNeg, not_true_eq_false, not_false_eq_true, hh, hb, e1, eY.symm, k1]
    first | done | (refine congrArg (fun z => some (some (Value.int (iI z)), N')) ?_; omega)
  · rw [if_neg e1] at hs
    by_cases e2 : x q = 60
    · rw [if_pos e2] at hs
      subst hs
      have d1 : ¬ (60 : Int) = 61 := by omega
      simp (config := { maxSteps := 1000000 }) (disch := (first | omega | decide | assumption)) only [ltm_s, ok_n, rd_i, rd_j, fd_i, fd_j, wr_i, wr_j, fw_i, fw_j, ci_s, cj_s, cv_s, dv_n, dw_n, rt_1, rt_b, rt_20, rt_21, okb_0, okb_1, okb_b, nar_0, nar_1, nar_b, i_0, i_1, j_0, j_1, i_lit, j_lit, i_n, iI_add, iI_sub, iI_mul, iI_neg, jI_add, jI_sub, jI_mul, jI_neg, sh_1, an_1, xo_1, di_p, dj_p, i_64A, i_64, j_32, lq_ge, lq_lt, lq_le, lq_gt, lq_eq, i_lt, i_le, i_eq, j_eq, iI_A, jI_J, iI_b, iI_v, jI_v, ↓reduceIte, ite_true, ite_false, Int.reduceEq, Int.reduceLT, Int.reduceLE, Int.reduceAdd, Int.reduceSub, Int.reduceMul, Int.reduceNeg, not_true_eq_false, not_false_eq_true, hh, hb, e2, d1, eY.symm, k1]
      first | done | (refine congrArg (fun z => some (some (Value.int (iI z)), N')) ?_; omega)
    · rw [if_neg e2] at hs
      subst hs
      simp (config := { maxSteps := 1000000 }) (disch := (first | omega | decide | assumption)) only [ltm_s, ok_n, rd_i, rd_j, fd_i, fd_j, wr_i, wr_j, fw_i, fw_j, ci_s, cj_s, cv_s, dv_n, dw_n, rt_1, rt_b, rt_20, rt_21, okb_0, okb_1, okb_b, nar_0, nar_1, nar_b, i_0, i_1, j_0, j_1, i_lit, j_lit, i_n, iI_add, iI_sub, iI_mul, iI_neg, jI_add, jI_sub, jI_mul, jI_neg, sh_1, an_1, xo_1, di_p, dj_p, i_64A, i_64, j_32, lq_ge, lq_lt, lq_le, lq_gt, lq_eq, i_lt, i_le, i_eq, j_eq, iI_A, jI_J, iI_b, iI_v, jI_v, ↓reduceIte, ite_true, ite_false, Int.reduceEq, Int.reduceLT, Int.reduceLE, Int.reduceAdd, Int.reduceSub, Int.reduceMul, Int.reduceNeg, not_true_eq_false, not_false_eq_true, hh, hb, e1, e2, eY.symm, k1]
      first | done | (refine congrArg (fun z => some (some (Value.int (iI z)), N')) ?_; omega)
theorem m_test (hF : F = am_F T0 g) (hg : GG g) (ht : Tp x n) (hm : Mt x n N) {p : Int} (hp : A N 219 75 = p) (p0 : 0 ≤ p) (p1 : p ≤ n) (hb : A N 219 92 = 0) {b f s v p' : Int} (T : Tst x p b f s v p') :
    ∃ (u : Int) (N' : am_M), F 226 0 [.ref 219] [] N = some (some (.int (iI u)), N') ∧ Ch [] [(219, 75), (219, 92)] N N' ∧ A N' 219 75 = p' ∧ A N' 219 92 = 1 - b ∧ (b = 1 → u = 100000 * f + 10000 * s + v) := by
  have hn := ht.1
  have tr := T.r ht p0 p1
  obtain ⟨ef, T⟩ := T
  have hf := fld_r (x p)
  have hh := m_here hF hg ht hm hp p0 p1
  have xr := ht.r p
  have m := mt_r ht (cs := tx (2 + f.toNat)) (p := p) (tx_n _ (by omega)) p0 p1
  -- the name is eaten
  have go : ∀ X : am_M, Ch [] [(219, 75), (219, 92)] N X → A X 219 75 = etp x (tx (2 + f.toNat)) p 0 → A X 219 92 = etb x (tx (2 + f.toNat)) p 0 → ∃ (u : Int) (N' : am_M), F 226 171 [.ref 219, .int (iI f)] [] X = some (some (.int (iI u)), N') ∧ Ch [] [(219, 75), (219, 92)] N N' ∧ A N' 219 75 = p' ∧ A N' 219 92 = 1 - b ∧ (b = 1 → u = 100000 * f + 10000 * s + v) := fun X cX e1 e2 => by
    rw [et_0.1] at e1
    rw [et_0.2] at e2
    rcases T with ⟨T1, T2⟩ | ⟨T1, T2, T3⟩
    · obtain ⟨u, N', w1, w2, w3, w4, w5⟩ := m_cmp hF hg ht (hm.c2 cX) e1 m.1.1 m.1.2 (by rw [e2, T1]; rfl) tr.2.1.1 tr.2.1.2 T2
      exact ⟨u, N', w1, cX.trans w2, w3, w4, w5⟩
    · obtain ⟨u, N', w1, w2, w3, w4⟩ := m_cmp1 hF hg ht (hm.c2 cX) e1 m.1.1 m.1.2 (by rw [e2, T1]; rfl) tr.2.1.1 tr.2.1.2
      exact ⟨u, N', w1, cX.trans w2, by rw [w3, T3], by omega, fun h => by omega⟩
  by_cases k4 : x p = 102
  · have hf4 : f = 4 := by
      rw [ef, k4]; rfl
    subst hf4
    obtain ⟨N1, a1, a2, a3, a4, a5, a6⟩ := m_eats4 hF hg ht hm (c1 := 102) (c2 := 101) (c3 := 101) (c4 := 116) hp p0 p1 hb (Or.inl rfl) (by omega) (by omega) (by omega) (by omega)
    obtain ⟨u, N', w1, w2⟩ := go N1 a2 a3 a4
    refine ⟨u, N', ?_, w2⟩
    refine s_Model_testRead hF hg ?_
    simp (config := { maxSteps := 1000000 }) (disch := (first | omega | decide | assumption)) only [ltm_s, ok_n, rd_i, rd_j, fd_i, fd_j, wr_i, wr_j, fw_i, fw_j, ci_s, cj_s, cv_s, dv_n, dw_n, rt_1, rt_b, rt_20, rt_21, okb_0, okb_1, okb_b, nar_0, nar_1, nar_b, i_0, i_1, j_0, j_1, i_lit, j_lit, i_n, iI_add, iI_sub, iI_mul, iI_neg, jI_add, jI_sub, jI_mul, jI_neg, sh_1, an_1, xo_1, di_p, dj_p, i_64A, i_64, j_32, lq_ge, lq_lt, lq_le, lq_gt, lq_eq, i_lt, i_le, i_eq, j_eq, iI_A, jI_J, iI_b, iI_v, jI_v, ↓reduceIte, ite_true, ite_false, Int.reduceEq, Int.reduceLT, Int.reduceLE, Int.reduceAdd, Int.reduceSub, Int.reduceMul, Int.reduceNeg, not_true_eq_false, not_false_eq_true, hh, k4, a1, w1]
  by_cases k2 : x p = 111
  · have hf2 : f = 2 := by
      rw [ef, k2]; rfl
    subst hf2
    obtain ⟨N1, a1, a2, a3, a4, a5, a6⟩ := m_eats4 hF hg ht hm (c1 := 111) (c2 := 118) (c3 := 101) (c4 := 114) hp p0 p1 hb (Or.inl rfl) (by omega) (by omega) (by omega) (by omega)
    obtain ⟨u, N', w1, w2⟩ := go N1 a2 a3 a4
    refine ⟨u, N', ?_, w2⟩
    have n4 : ¬ (111 : Int) = 102 := by omega
    refine s_Model_testRead hF hg ?_
    simp (config := { maxSteps := 1000000 }) (disch := (first | omega | decide | assumption)) only [ltm_s, ok_n, rd_i, rd_j, fd_i, fd_j, wr_i, wr_j, fw_i, fw_j, ci_s, cj_s, cv_s, dv_n, dw_n, rt_1, rt_b, rt_20, rt_21, okb_0, okb_1, okb_b, nar_0, nar_1, nar_b, i_0, i_1, j_0, j_1, i_lit, j_lit, i_n, iI_add, iI_sub, iI_mul, iI_neg, jI_add, jI_sub, jI_mul, jI_neg, sh_1, an_1, xo_1, di_p, dj_p, i_64A, i_64, j_32, lq_ge, lq_lt, lq_le, lq_gt, lq_eq, i_lt, i_le, i_eq, j_eq, iI_A, jI_J, iI_b, iI_v, jI_v, ↓reduceIte, ite_true, ite_false, Int.reduceEq, Int.reduceLT, Int.reduceLE, Int.reduceAdd, Int.reduceSub, Int.reduceMul, Int.reduceNeg, not_true_eq_false, not_false_eq_true, hh, k2, n4, a1, w1]
  by_cases k0 : x p = 115
  · have hf0 : f = 0 := by
      rw [ef, k0]; rfl
    subst hf0
    obtain ⟨N1, a1, a2, a3, a4, a5, a6⟩ := m_eats4 hF hg ht hm (c1 := 115) (c2 := 97) (c3 := 105) (c4 := 100) hp p0 p1 hb (Or.inl rfl) (by omega) (by omega) (by omega) (by omega)
    obtain ⟨u, N', w1, w2⟩ := go N1 a2 a3 a4
    refine ⟨u, N', ?_, w2⟩
    have n4 : ¬ (115 : Int) = 102 := by omega
    have n2 : ¬ (115 : Int) = 111 := by omega
    refine s_Model_testRead hF hg ?_
    simp (config := { maxSteps := 1000000 }) (disch := (first | omega | decide | assumption)) only [ltm_s, ok_n, rd_i, rd_j, fd_i, fd_j, wr_i, wr_j, fw_i, fw_j, ci_s, cj_s, cv_s, dv_n, dw_n, rt_1, rt_b, rt_20, rt_21, okb_0, okb_1, okb_b, nar_0, nar_1, nar_b, i_0, i_1, j_0, j_1, i_lit, j_lit, i_n, iI_add, iI_sub, iI_mul, iI_neg, jI_add, jI_sub, jI_mul, jI_neg, sh_1, an_1, xo_1, di_p, dj_p, i_64A, i_64, j_32, lq_ge, lq_lt, lq_le, lq_gt, lq_eq, i_lt, i_le, i_eq, j_eq, iI_A, jI_J, iI_b, iI_v, jI_v, ↓reduceIte, ite_true, ite_false, Int.reduceEq, Int.reduceLT, Int.reduceLE, Int.reduceAdd, Int.reduceSub, Int.reduceMul, Int.reduceNeg, not_true_eq_false, not_false_eq_true, hh, k0, n4, n2, a1, w1]
  by_cases k3 : x p = 116
  · have hf3 : f = 3 := by
      rw [ef, k3]; rfl
    subst hf3
    obtain ⟨N1, a1, a2, a3, a4, a5, a6⟩ := m_eats4 hF hg ht hm (c1 := 116) (c2 := 117) (c3 := 114) (c4 := 110) hp p0 p1 hb (Or.inl rfl) (by omega) (by omega) (by omega) (by omega)
    obtain ⟨N2, d1, d2, d3, d4, d5, d6⟩ := m_eats hF hg ht (hm.c2 a2) (c := 115) a3 a5.1 a5.2 a4 a6 (by omega) (by omega)
    have ea := et_app (x := x) (ds := [115]) (cs := [116, 117, 114, 110]) (p := p) (b := 0)
    obtain ⟨u, N', w1, w2⟩ := go N2 (a2.trans d2) (d3.trans ea.1.symm) (d4.trans ea.2.symm)
    refine ⟨u, N', ?_, w2⟩
    have n4 : ¬ (116 : Int) = 102 := by omega
    have n2 : ¬ (116 : Int) = 111 := by omega
    have n0 : ¬ (116 : Int) = 115 := by omega
    refine s_Model_testRead hF hg ?_
    simp (config := { maxSteps := 1000000 }) (disch := (first | omega | decide | assumption)) only [ltm_s, ok_n, rd_i, rd_j, fd_i, fd_j, wr_i, wr_j, fw_i, fw_j, ci_s, cj_s, cv_s, dv_n, dw_n, rt_1, rt_b, rt_20, rt_21, okb_0, okb_1, okb_b, nar_0, nar_1, nar_b, i_0, i_1, j_0, j_1, i_lit, j_lit, i_n, iI_add, iI_sub, iI_mul, iI_neg, jI_add, jI_sub, jI_mul, jI_neg, sh_1, an_1, xo_1, di_p, dj_p, i_64A, i_64, j_32, lq_ge, lq_lt, lq_le, lq_gt, lq_eq, i_lt, i_le, i_eq, j_eq, iI_A, jI_J, iI_b, iI_v, jI_v, ↓reduceIte, ite_true, ite_false, Int.reduceEq, Int.reduceLT, Int.reduceLE, Int.reduceAdd, Int.reduceSub, Int.reduceMul, Int.reduceNeg, not_true_eq_false, not_false_eq_true, hh, k3, n4, n2, n0, a1, d1, w1]
  by_cases k1 : x p = 119
  · have hf1 : f = 1 := by
      rw [ef, k1]; rfl
    subst hf1
    obtain ⟨N1, a1, a2, a3, a4, a5, a6⟩ := m_eats4 hF hg ht hm (c1 := 119) (c2 := 114) (c3 := 111) (c4 := 110) hp p0 p1 hb (Or.inl rfl) (by omega) (by omega) (by omega) (by omega)
    obtain ⟨N2, d1, d2, d3, d4, d5, d6⟩ := m_eats hF hg ht (hm.c2 a2) (c := 103) a3 a5.1 a5.2 a4 a6 (by omega) (by omega)
    have ea := et_app (x := x) (ds := [103]) (cs := [119, 114, 111, 110]) (p := p) (b := 0)
    obtain ⟨u, N', w1, w2⟩ := go N2 (a2.trans d2) (d3.trans ea.1.symm) (d4.trans ea.2.symm)
    refine ⟨u, N', ?_, w2⟩
    have n4 : ¬ (119 : Int) = 102 := by omega
    have n2 : ¬ (119 : Int) = 111 := by omega
    have n0 : ¬ (119 : Int) = 115 := by omega
    have n3 : ¬ (119 : Int) = 116 := by omega
    refine s_Model_testRead hF hg ?_
    simp (config := { maxSteps := 1000000 }) (disch := (first | omega | decide | assumption)) only [ltm_s, ok_n, rd_i, rd_j, fd_i, fd_j, wr_i, wr_j, fw_i, fw_j, ci_s, cj_s, cv_s, dv_n, dw_n, rt_1, rt_b, rt_20, rt_21, okb_0, okb_1, okb_b, nar_0, nar_1, nar_b, i_0, i_1, j_0, j_1, i_lit, j_lit, i_n, iI_add, iI_sub, iI_mul, iI_neg, jI_add, jI_sub, jI_mul, jI_neg, sh_1, an_1, xo_1, di_p, dj_p, i_64A, i_64, j_32, lq_ge, lq_lt, lq_le, lq_gt, lq_eq, i_lt, i_le, i_eq, j_eq, iI_A, jI_J, iI_b, iI_v, jI_v, ↓reduceIte, ite_true, ite_false, Int.reduceEq, Int.reduceLT, Int.reduceLE, Int.reduceAdd, Int.reduceSub, Int.reduceMul, Int.reduceNeg, not_true_eq_false, not_false_eq_true, hh, k1, n4, n2, n0, n3, a1, d1, w1]
  have hf5 : f = 5 := by
    rw [ef]
    unfold fld
    rw [if_neg k0, if_neg k1, if_neg k2, if_neg k3, if_neg k4]
  subst hf5
  obtain ⟨N1, a1, a2, a3, a4, a5, a6⟩ := m_eats hF hg ht hm (c := 100) hp p0 p1 hb (Or.inl rfl) (by omega) (by omega)
  obtain ⟨N2, d1, d2, d3, d4, d5, d6⟩ := m_eats hF hg ht (hm.c2 a2) (c := 97) a3 a5.1 a5.2 a4 a6 (by omega) (by omega)
  obtain ⟨N3, f1, f2, f3, f4, f5, f6⟩ := m_eats hF hg ht ((hm.c2 a2).c2 d2) (c := 121) d3 d5.1 d5.2 d4 d6 (by omega) (by omega)
  have e1 := et_app (x := x) (ds := [97, 121]) (cs := [100]) (p := p) (b := 0)
  have e2 := et_app (x := x) (ds := [121]) (cs := [97]) (p := etp x [100] p 0) (b := etb x [100] p 0)
  obtain ⟨u, N', w1, w2⟩ := go N3 (a2.trans (d2.trans f2)) (f3.trans (e2.1.symm.trans e1.1.symm)) (f4.trans (e2.2.symm.trans e1.2.symm))
  refine ⟨u, N', ?_, w2⟩
  refine s_Model_testRead hF hg ?_
  simp (config := { maxSteps := 1000000 }) (disch := (first | omega | decide | assumption)) only [ltm_s, ok_n, rd_i, rd_j, fd_i, fd_j, wr_i, wr_j, fw_i, fw_j, ci_s, cj_s, cv_s, dv_n, dw_n, rt_1, rt_b, rt_20, rt_21, okb_0, okb_1, okb_b, nar_0, nar_1, nar_b, i_0, i_1, j_0, j_1, i_lit, j_lit, i_n, iI_add, iI_sub, iI_mul, iI_neg, jI_add, jI_sub, jI_mul, jI_neg, sh_1, an_1, xo_1, di_p, dj_p, i_64A, i_64, j_32, lq_ge, lq_lt, lq_le, lq_gt, lq_eq, i_lt, i_le, i_eq, j_eq, iI_A, jI_J, iI_b, iI_v, jI_v, ↓reduceIte, ite_true, ite_false, Int.reduceEq, Int.reduceLT, Int.reduceLE, Int.reduceAdd, Int.reduceSub, Int.reduceMul, Int.reduceNeg, not_true_eq_false, not_false_eq_true, hh, k4, k2, k0, k3, k1, a1, d1, f1, w1]
end Mt_
