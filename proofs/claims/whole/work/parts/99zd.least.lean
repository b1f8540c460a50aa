/-! BOUND, asked of both -/
section Bo
variable {M0 M N : am_M} {g : am_G} {F : am_FT}
theorem fw_l (hF : F = am_F T0 g) (hg : GG g) (hA : Ag M0 M) (hB : Ag M0 N) (h1 : I1 M0) (h2 : I2 M0) (h3 : I3 M0) (h4 : I4 M0) (h6 : I6 M0) (h7 : I7 M0) (h8 : I8 M0) (h9 : I9 M0) {md : Int × Int × Int × Int} (hmd : mok M0 md) (hf : fset M0 md M) (hs : mset md N) {r : Nat} (ha : gK g r = (1, 100)) {a b s : Int} {v : Int → Int} (a0 : 0 ≤ a) (a1 : a < nD M0) (b0 : 0 ≤ b) (b1 : b < nD M0) (s0 : 0 ≤ s) (s3 : s ≤ 3) (hv : ∀ f : Int, 0 ≤ f → f < 2 * nW M0 → A M r f = v f) (hw : ∀ f : Int, 0 ≤ f → f < 2 * nW M0 → A N 261 (100 * s + f) = v f) : ∀ mm k : Nat, (k : Int) + mm = 2 * nW M0 →
    ∃ x : Int, F 168 2 [.ref 32, .ref r, .int (iI b), .int (iI k)] [] M = some (some (.int (iI x)), M) ∧ ((x = -1 ∧ ∀ R : am_R, F 258 160 [.ref 219, .int (iI a), .int (iI b), .int (iI s), .long (jI 1000000000000), .int (iI (2 * A M0 228 a))] [] N = some R → F 258 107 [.ref 219, .int (iI a), .int (iI b), .int (iI s), .int (iI k)] [] N = some R) ∨ ((0 ≤ x ∧ x < 80) ∧ F 258 107 [.ref 219, .int (iI a), .int (iI b), .int (iI s), .int (iI k)] [] N = some (some (.int (iI (-100 - x))), N))) := by
  have hn := h2.1
  have hd := h4.1
  have u0 := hmd.2.2.1
  have u1 := hmd.2.2.2
  have e4 : A N 219 4 = nW M0 := ag hB rfl
  have e228 : A N 228 a = A M0 228 a := agA hB rfl
  have lc := c_legCount hF hg hA h2
  have wa := (h4.2.2 a a0 a1).1
  intro mm
  induction mm with
  | zero =>
    intro k hk
    have q : 2 * nW M0 ≤ (k : Int) := by omega
    refine ⟨-1, ?_, Or.inl ⟨rfl, fun R hR => ?_⟩⟩
    · refine s_Finder_firstWrong_2 hF hg ha ?_
      simp (config := { maxSteps := 1000000 }) (disch := (first | omega | decide | assumption)) only [ltm_s, ok_n, rd_i, rd_j, fd_i, fd_j, wr_i, wr_j, fw_i, fw_j, ci_s, cj_s, cv_s, dv_n, dw_n, rt_1, rt_b, rt_20, rt_21, okb_0, okb_1, okb_b, nar_0, nar_1, nar_b, i_0, i_1, j_0, j_1, i_lit, j_lit, i_n, iI_add, iI_sub, iI_mul, iI_neg, jI_add, jI_sub, jI_mul, jI_neg, sh_1, an_1, xo_1, di_p, dj_p, i_64A, i_64, j_32, lq_ge, lq_lt, lq_le, lq_gt, lq_eq, i_lt, i_le, i_eq, j_eq, iI_A, jI_J, iI_b, iI_v, jI_v, ↓reduceIte, ite_true, ite_false, Int.reduceEq, Int.reduceLT, Int.reduceLE, Int.reduceAdd, Int.reduceSub, Int.reduceMul, Int.reduceNeg, not_true_eq_false, not_false_eq_true, lc, q]
    · refine s_Model_bound_107 hF hg ?_
      simp (config := { maxSteps := 1000000 }) (disch := (first | omega | decide | assumption)) only [ltm_s, ok_n, rd_i, rd_j, fd_i, fd_j, wr_i, wr_j, fw_i, fw_j, ci_s, cj_s, cv_s, dv_n, dw_n, rt_1, rt_b, rt_20, rt_21, okb_0, okb_1, okb_b, nar_0, nar_1, nar_b, i_0, i_1, j_0, j_1, i_lit, j_lit, i_n, iI_add, iI_sub, iI_mul, iI_neg, jI_add, jI_sub, jI_mul, jI_neg, sh_1, an_1, xo_1, di_p, dj_p, i_64A, i_64, j_32, lq_ge, lq_lt, lq_le, lq_gt, lq_eq, i_lt, i_le, i_eq, j_eq, iI_A, jI_J, iI_b, iI_v, jI_v, ↓reduceIte, ite_true, ite_false, Int.reduceEq, Int.reduceLT, Int.reduceLE, Int.reduceAdd, Int.reduceSub, Int.reduceMul, Int.reduceNeg, not_true_eq_false, not_false_eq_true, e4, q, e228]
      exact hR
  | succ mm ih =>
    intro k hk
    have q : ¬ 2 * nW M0 ≤ (k : Int) := by omega
    have q2 : ¬ 100 ≤ (k : Int) := by omega
    have hs' : (k : Int) + 1 = ((k + 1 : Nat) : Int) := by omega
    obtain ⟨x, i1, i2⟩ := ih (k + 1) (by omega)
    have ev := hv k (by omega) (by omega)
    have vr : -2147483648 ≤ v k ∧ v k < 2147483648 := by
      rw [← ev]; exact ⟨A_lo _ _ _, A_hi _ _ _⟩
    have mr := m_right hF hg hB h1 h2 h4 h6 h7 h8 h9 hmd hs (e := k) (o := 100 * s) b0 b1 (by omega) (by omega) (by omega) (by omega) hw
    by_cases y : -1 ≤ v k
    · have cr := c_right hF hg hA h1 h2 h3 h4 u0 u1 hf ha (e := k) b0 b1 (by omega) (by omega) y hv
      have y2 : ¬ v k < -1 := by omega
      by_cases z : rgA M0 md b v k
      · rw [bI_t z] at cr
        rw [bI_t ⟨y, z⟩] at mr
        refine ⟨x, ?_, ?_⟩
        · refine s_Finder_firstWrong_2 hF hg ha ?_
          simp (config := { maxSteps := 1000000 }) (disch := (first | omega | decide | assumption)) only [ltm_s, ok_n, rd_i, rd_j, fd_i, fd_j, wr_i, wr_j, fw_i, fw_j, ci_s, cj_s, cv_s, dv_n, dw_n, rt_1, rt_b, rt_20, rt_21, okb_0, okb_1, okb_b, nar_0, nar_1, nar_b, i_0, i_1, j_0, j_1, i_lit, j_lit, i_n, iI_add, iI_sub, iI_mul, iI_neg, jI_add, jI_sub, jI_mul, jI_neg, sh_1, an_1, xo_1, di_p, dj_p, i_64A, i_64, j_32, lq_ge, lq_lt, lq_le, lq_gt, lq_eq, i_lt, i_le, i_eq, j_eq, iI_A, jI_J, iI_b, iI_v, jI_v, ↓reduceIte, ite_true, ite_false, Int.reduceEq, Int.reduceLT, Int.reduceLE, Int.reduceAdd, Int.reduceSub, Int.reduceMul, Int.reduceNeg, not_true_eq_false, not_false_eq_true, lc, q, q2, ev, y2, cr, hs', i1]
        · rcases i2 with ⟨x1, i3⟩ | ⟨x1, i3⟩
          · refine Or.inl ⟨x1, fun R hR => ?_⟩
            refine s_Model_bound_107 hF hg ?_
            simp (config := { maxSteps := 1000000 }) (disch := (first | omega | decide | assumption)) only [ltm_s, ok_n, rd_i, rd_j, fd_i, fd_j, wr_i, wr_j, fw_i, fw_j, ci_s, cj_s, cv_s, dv_n, dw_n, rt_1, rt_b, rt_20, rt_21, okb_0, okb_1, okb_b, nar_0, nar_1, nar_b, i_0, i_1, j_0, j_1, i_lit, j_lit, i_n, iI_add, iI_sub, iI_mul, iI_neg, jI_add, jI_sub, jI_mul, jI_neg, sh_1, an_1, xo_1, di_p, dj_p, i_64A, i_64, j_32, lq_ge, lq_lt, lq_le, lq_gt, lq_eq, i_lt, i_le, i_eq, j_eq, iI_A, jI_J, iI_b, iI_v, jI_v, ↓reduceIte, ite_true, ite_false, Int.reduceEq, Int.reduceLT, Int.reduceLE, Int.reduceAdd, Int.reduceSub, Int.reduceMul, Int.reduceNeg, not_true_eq_false, not_false_eq_true, e4, q, mr, hs']
            exact i3 R hR
          · refine Or.inr ⟨x1, ?_⟩
            refine s_Model_bound_107 hF hg ?_
            simp (config := { maxSteps := 1000000 }) (disch := (first | omega | decide | assumption)) only [ltm_s, ok_n, rd_i, rd_j, fd_i, fd_j, wr_i, wr_j, fw_i, fw_j, ci_s, cj_s, cv_s, dv_n, dw_n, rt_1, rt_b, rt_20, rt_21, okb_0, okb_1, okb_b, nar_0, nar_1, nar_b, i_0, i_1, j_0, j_1, i_lit, j_lit, i_n, iI_add, iI_sub, iI_mul, iI_neg, jI_add, jI_sub, jI_mul, jI_neg, sh_1, an_1, xo_1, di_p, dj_p, i_64A, i_64, j_32, lq_ge, lq_lt, lq_le, lq_gt, lq_eq, i_lt, i_le, i_eq, j_eq, iI_A, jI_J, iI_b, iI_v, jI_v, ↓reduceIte, ite_true, ite_false, Int.reduceEq, Int.reduceLT, Int.reduceLE, Int.reduceAdd, Int.reduceSub, Int.reduceMul, Int.reduceNeg, not_true_eq_false, not_false_eq_true, e4, q, mr, hs', i3]
      · rw [bI_f z] at cr
        rw [bI_f (fun w => z w.2)] at mr
        refine ⟨k, ?_, Or.inr ⟨by omega, ?_⟩⟩
        · refine s_Finder_firstWrong_2 hF hg ha ?_
          simp (config := { maxSteps := 1000000 }) (disch := (first | omega | decide | assumption)) only [ltm_s, ok_n, rd_i, rd_j, fd_i, fd_j, wr_i, wr_j, fw_i, fw_j, ci_s, cj_s, cv_s, dv_n, dw_n, rt_1, rt_b, rt_20, rt_21, okb_0, okb_1, okb_b, nar_0, nar_1, nar_b, i_0, i_1, j_0, j_1, i_lit, j_lit, i_n, iI_add, iI_sub, iI_mul, iI_neg, jI_add, jI_sub, jI_mul, jI_neg, sh_1, an_1, xo_1, di_p, dj_p, i_64A, i_64, j_32, lq_ge, lq_lt, lq_le, lq_gt, lq_eq, i_lt, i_le, i_eq, j_eq, iI_A, jI_J, iI_b, iI_v, jI_v, ↓reduceIte, ite_true, ite_false, Int.reduceEq, Int.reduceLT, Int.reduceLE, Int.reduceAdd, Int.reduceSub, Int.reduceMul, Int.reduceNeg, not_true_eq_false, not_false_eq_true, lc, q, q2, ev, y2, cr]
        · refine s_Model_bound_107 hF hg ?_
          simp (config := { maxSteps := 1000000 }) (disch := (first | omega | decide | assumption)) only [ltm_s, ok_n, rd_i, rd_j, fd_i, fd_j, wr_i, wr_j, fw_i, fw_j, ci_s, cj_s, cv_s, dv_n, dw_n, rt_1, rt_b, rt_20, rt_21, okb_0, okb_1, okb_b, nar_0, nar_1, nar_b, i_0, i_1, j_0, j_1, i_lit, j_lit, i_n, iI_add, iI_sub, iI_mul, iI_neg, jI_add, jI_sub, jI_mul, jI_neg, sh_1, an_1, xo_1, di_p, dj_p, i_64A, i_64, j_32, lq_ge, lq_lt, lq_le, lq_gt, lq_eq, i_lt, i_le, i_eq, j_eq, iI_A, jI_J, iI_b, iI_v, jI_v, ↓reduceIte, ite_true, ite_false, Int.reduceEq, Int.reduceLT, Int.reduceLE, Int.reduceAdd, Int.reduceSub, Int.reduceMul, Int.reduceNeg, not_true_eq_false, not_false_eq_true, e4, q, mr]
    · have y2 : v k < -1 := by omega
      rw [bI_f (fun w => y w.1)] at mr
      refine ⟨k, ?_, Or.inr ⟨by omega, ?_⟩⟩
      · refine s_Finder_firstWrong_2 hF hg ha ?_
        simp (config := { maxSteps := 1000000 }) (disch := (first | omega | decide | assumption)) only [ltm_s, ok_n, rd_i, rd_j, fd_i, fd_j, wr_i, wr_j, fw_i, fw_j, ci_s, cj_s, cv_s, dv_n, dw_n, rt_1, rt_b, rt_20, rt_21, okb_0, okb_1, okb_b, nar_0, nar_1, nar_b, i_0, i_1, j_0, j_1, i_lit, j_lit, i_n, iI_add, iI_sub, iI_mul, iI_neg, jI_add, jI_sub, jI_mul, jI_neg, sh_1, an_1, xo_1, di_p, dj_p, i_64A, i_64, j_32, lq_ge, lq_lt, lq_le, lq_gt, lq_eq, i_lt, i_le, i_eq, j_eq, iI_A, jI_J, iI_b, iI_v, jI_v, ↓reduceIte, ite_true, ite_false, Int.reduceEq, Int.reduceLT, Int.reduceLE, Int.reduceAdd, Int.reduceSub, Int.reduceMul, Int.reduceNeg, not_true_eq_false, not_false_eq_true, lc, q, q2, ev, y2]
      · refine s_Model_bound_107 hF hg ?_
        simp (config := { maxSteps := 1000000 }) (disch := (first | omega | decide | assumption)) only [ltm_s, ok_n, rd_i, rd_j, fd_i, fd_j, wr_i, wr_j, fw_i, fw_j, ci_s, cj_s, cv_s, dv_n, dw_n, rt_1, rt_b, rt_20, rt_21, okb_0, okb_1, okb_b, nar_0, nar_1, nar_b, i_0, i_1, j_0, j_1, i_lit, j_lit, i_n, iI_add, iI_sub, iI_mul, iI_neg, jI_add, jI_sub, jI_mul, jI_neg, sh_1, an_1, xo_1, di_p, dj_p, i_64A, i_64, j_32, lq_ge, lq_lt, lq_le, lq_gt, lq_eq, i_lt, i_le, i_eq, j_eq, iI_A, jI_J, iI_b, iI_v, jI_v, ↓reduceIte, ite_true, ite_false, Int.reduceEq, Int.reduceLT, Int.reduceLE, Int.reduceAdd, Int.reduceSub, Int.reduceMul, Int.reduceNeg, not_true_eq_false, not_false_eq_true, e4, q, mr]
/-- the least so far, by both -/
def lrel (x y : Int) : Prop := x = FARC ∧ y = 1000000000000 ∨ x = y ∧ 0 ≤ x ∧ x ≤ 3000000000
/-- one leg of the first door -/
theorem least_1 (hF : F = am_F T0 g) (hg : GG g) (hA : Ag M0 M) (hB : Ag M0 N) (h2 : I2 M0) (h4 : I4 M0) (h6 : I6 M0) {md : Int × Int × Int × Int} (hmd : mok M0 md) (hf : fset M0 md M) (hs : mset md N) {r : Nat} (ha : gK g r = (1, 100)) {a b s e x y w : Int} {v : Int → Int} (a0 : 0 ≤ a) (a1 : a < nD M0) (b0 : 0 ≤ b) (b1 : b < nD M0) (s0 : 0 ≤ s) (s3 : s ≤ 3) (hv : ∀ f : Int, 0 ≤ f → f < 2 * nW M0 → A M r f = v f) (hw : ∀ f : Int, 0 ≤ f → f < 2 * nW M0 → A N 261 (100 * s + f) = v f) (hea : e / 2 = A M0 228 a) (hw0 : w = 2 * A M0 228 a) (hxy : lrel x y) : ∃ x' y' : Int, lrel x' y' ∧ (∀ R : am_R, F 95 22 [.ref 32, .ref r, .int (iI a), .int (iI b), .long (jI x'), .int (iI w), .int (iI (e + 1))] [] M = some R → F 95 22 [.ref 32, .ref r, .int (iI a), .int (iI b), .long (jI x), .int (iI w), .int (iI e)] [] M = some R) ∧ ∀ R : am_R, F 258 160 [.ref 219, .int (iI a), .int (iI b), .int (iI s), .long (jI y'), .int (iI (e + 1))] [] N = some R → F 258 160 [.ref 219, .int (iI a), .int (iI b), .int (iI s), .long (jI y), .int (iI e)] [] N = some R := by
  have eF : FARC = 9223372036854775807 := rfl
  have hn := h2.1
  have hd := h4.1
  have wa := (h4.2.2 a a0 a1).1
  have e0 : 0 ≤ e := by omega
  have e1 : e < 2 * nW M0 := by omega
  have e11a : A M 11 a = A M0 228 a := (agA hA rfl).trans (r11 h4 a0 a1)
  have e11b : A M 11 b = A M0 228 b := (agA hA rfl).trans (r11 h4 b0 b1)
  have e228 : A N 228 a = A M0 228 a := agA hB rfl
  have e33 := hf.2.1 e e0 e1
  have mg := m_mayGo hF hg hB h2 h6 hs hmd e0 e1
  have vv := hv e e0 e1
  have ww := hw e e0 e1
  have vr : -2147483648 ≤ v e ∧ v e < 2147483648 := by
    rw [← vv]; exact ⟨A_lo _ _ _, A_hi _ _ _⟩
  have fr := fdr_r h2 h4 (b := a) (f := e) a0 a1
  have ar := ahd_r h2 h4 (e := e) a0 a1 b0 b1
  have ce := c_feetToEnd hF hg hA h2 h4 e0 e1 a0 a1 hea
  have fa := c_feetAhead hF hg hA h2 h4 e0 e1 a0 a1 b0 b1
  have ea : (if e % 2 = 0 then A M0 229 b - A M0 229 a else A M0 229 a - A M0 229 b) = ahd_ M0 a b e := rfl
  rw [ea] at fa
  have mb := m_between hF hg hB h2 h4 a0 a1 b0 b1 e0 e1
  have fd := m_fromDoor hF hg hB h2 h4 a0 a1 e0 e1 hea
  have n1 : ¬ 2 * A M0 228 a + 1 < e := by omega
  have n2 : ¬ w + 1 < e := by omega
  have xr : 0 ≤ x ∧ x ≤ 9223372036854775807 ∧ 0 ≤ y ∧ y ≤ 3000000000000 := by
    unfold lrel at hxy; omega
  obtain ⟨z, hz⟩ : ∃ z : Int, z = ahd_ M0 a b e := ⟨_, rfl⟩
  obtain ⟨t, ht⟩ : ∃ t : Int, t = fdr M0 a e + v e := ⟨_, rfl⟩
  rw [← hz] at fa mb ar
  have mj := fun (X : am_M) (p q : Int) (p0 : 0 ≤ p) (p1 : p ≤ 9223372036854775807) (q0 : 0 ≤ q) (q1 : q ≤ 9223372036854775807) => c_minJ hF hg (M := X) (v := p) (w := q) (by omega) (by omega) (by omega) (by omega)
  by_cases qm : mgo M0 md e
  case neg =>
    rw [bI_f qm] at e33 mg
    refine ⟨x, y, hxy, fun R hR => ?_, fun R hR => ?_⟩
    · refine s_Finder_leastByProof_22 hF hg ha ?_
      simp (config := { maxSteps := 1000000 }) (disch := (first | omega | decide | assumption)) only [ltm_s, ok_n, rd_i, rd_j, fd_i, fd_j, wr_i, wr_j, fw_i, fw_j, ci_s, cj_s, cv_s, dv_n, dw_n, rt_1, rt_b, rt_20, rt_21, okb_0, okb_1, okb_b, nar_0, nar_1, nar_b, i_0, i_1, j_0, j_1, i_lit, j_lit, i_n, iI_add, iI_sub, iI_mul, iI_neg, jI_add, jI_sub, jI_mul, jI_neg, sh_1, an_1, xo_1, di_p, dj_p, i_64A, i_64, j_32, lq_ge, lq_lt, lq_le, lq_gt, lq_eq, i_lt, i_le, i_eq, j_eq, iI_A, jI_J, iI_b, iI_v, jI_v, ↓reduceIte, ite_true, ite_false, Int.reduceEq, Int.reduceLT, Int.reduceLE, Int.reduceAdd, Int.reduceSub, Int.reduceMul, Int.reduceNeg, not_true_eq_false, not_false_eq_true, n2, e33]
      exact hR
    · refine s_Model_bound_160 hF hg ?_
      simp (config := { maxSteps := 1000000 }) (disch := (first | omega | decide | assumption)) only [ltm_s, ok_n, rd_i, rd_j, fd_i, fd_j, wr_i, wr_j, fw_i, fw_j, ci_s, cj_s, cv_s, dv_n, dw_n, rt_1, rt_b, rt_20, rt_21, okb_0, okb_1, okb_b, nar_0, nar_1, nar_b, i_0, i_1, j_0, j_1, i_lit, j_lit, i_n, iI_add, iI_sub, iI_mul, iI_neg, jI_add, jI_sub, jI_mul, jI_neg, sh_1, an_1, xo_1, di_p, dj_p, i_64A, i_64, j_32, lq_ge, lq_lt, lq_le, lq_gt, lq_eq, i_lt, i_le, i_eq, j_eq, iI_A, jI_J, iI_b, iI_v, jI_v, ↓reduceIte, ite_true, ite_false, Int.reduceEq, Int.reduceLT, Int.reduceLE, Int.reduceAdd, Int.reduceSub, Int.reduceMul, Int.reduceNeg, not_true_eq_false, not_false_eq_true, e228, n1, mg]
      exact hR
  rw [bI_t qm] at e33 mg
  -- the one behind the other
  have last : ∀ (x1 y1 : Int), lrel x1 y1 → ∃ x' y' : Int, lrel x' y' ∧ (A M0 228 a = A M0 228 b ∧ 0 < z → x' = (if z < x1 then z else x1) ∧ y' = (if y1 ≤ z then y1 else z)) ∧ (¬ (A M0 228 a = A M0 228 b ∧ 0 < z) → x' = x1 ∧ y' = y1) := fun x1 y1 h => by
    by_cases q : A M0 228 a = A M0 228 b ∧ 0 < z
    · refine ⟨if z < x1 then z else x1, if y1 ≤ z then y1 else z, ?_, fun _ => ⟨rfl, rfl⟩, fun w => absurd q w⟩
      unfold lrel at h ⊢
      (repeat' split) <;> omega
    · exact ⟨x1, y1, h, fun w => absurd w q, fun _ => ⟨rfl, rfl⟩⟩
  by_cases qv : v e < 0
  · obtain ⟨x', y', l1, l2, l3⟩ := last x y hxy
    refine ⟨x', y', l1, fun R hR => ?_, fun R hR => ?_⟩
    · refine s_Finder_leastByProof_22 hF hg ha ?_
      by_cases q : A M0 228 a = A M0 228 b
      · by_cases q2 : z ≤ 0
        · rw [(l3 (by omega)).1] at hR
          simp (config := { maxSteps := 1000000 }) (disch := (first | omega | decide | assumption)) only [ltm_s, ok_n, rd_i, rd_j, fd_i, fd_j, wr_i, wr_j, fw_i, fw_j, ci_s, cj_s, cv_s, dv_n, dw_n, rt_1, rt_b, rt_20, rt_21, okb_0, okb_1, okb_b, nar_0, nar_1, nar_b, i_0, i_1, j_0, j_1, i_lit, j_lit, i_n, iI_add, iI_sub, iI_mul, iI_neg, jI_add, jI_sub, jI_mul, jI_neg, sh_1, an_1, xo_1, di_p, dj_p, i_64A, i_64, j_32, lq_ge, lq_lt, lq_le, lq_gt, lq_eq, i_lt, i_le, i_eq, j_eq, iI_A, jI_J, iI_b, iI_v, jI_v, ↓reduceIte, ite_true, ite_false, Int.reduceEq, Int.reduceLT, Int.reduceLE, Int.reduceAdd, Int.reduceSub, Int.reduceMul, Int.reduceNeg, not_true_eq_false, not_false_eq_true, n2, e33, vv, qv, e11a, e11b, eq_true q.symm, fa, q2]
          exact hR
        · rw [(l2 ⟨q, by omega⟩).1] at hR
          have m := mj M x z xr.1 xr.2.1 (by omega) (by omega)
          simp (config := { maxSteps := 1000000 }) (disch := (first | omega | decide | assumption)) only [ltm_s, ok_n, rd_i, rd_j, fd_i, fd_j, wr_i, wr_j, fw_i, fw_j, ci_s, cj_s, cv_s, dv_n, dw_n, rt_1, rt_b, rt_20, rt_21, okb_0, okb_1, okb_b, nar_0, nar_1, nar_b, i_0, i_1, j_0, j_1, i_lit, j_lit, i_n, iI_add, iI_sub, iI_mul, iI_neg, jI_add, jI_sub, jI_mul, jI_neg, sh_1, an_1, xo_1, di_p, dj_p, i_64A, i_64, j_32, lq_ge, lq_lt, lq_le, lq_gt, lq_eq, i_lt, i_le, i_eq, j_eq, iI_A, jI_J, iI_b, iI_v, jI_v, ↓reduceIte, ite_true, ite_false, Int.reduceEq, Int.reduceLT, Int.reduceLE, Int.reduceAdd, Int.reduceSub, Int.reduceMul, Int.reduceNeg, not_true_eq_false, not_false_eq_true, n2, e33, vv, qv, e11a, e11b, eq_true q.symm, fa, q2, m]
          exact hR
      · rw [(l3 (fun w => q w.1)).1] at hR
        have q' : ¬ A M0 228 b = A M0 228 a := fun w => q w.symm
        simp (config := { maxSteps := 1000000 }) (disch := (first | omega | decide | assumption)) only [ltm_s, ok_n, rd_i, rd_j, fd_i, fd_j, wr_i, wr_j, fw_i, fw_j, ci_s, cj_s, cv_s, dv_n, dw_n, rt_1, rt_b, rt_20, rt_21, okb_0, okb_1, okb_b, nar_0, nar_1, nar_b, i_0, i_1, j_0, j_1, i_lit, j_lit, i_n, iI_add, iI_sub, iI_mul, iI_neg, jI_add, jI_sub, jI_mul, jI_neg, sh_1, an_1, xo_1, di_p, dj_p, i_64A, i_64, j_32, lq_ge, lq_lt, lq_le, lq_gt, lq_eq, i_lt, i_le, i_eq, j_eq, iI_A, jI_J, iI_b, iI_v, jI_v, ↓reduceIte, ite_true, ite_false, Int.reduceEq, Int.reduceLT, Int.reduceLE, Int.reduceAdd, Int.reduceSub, Int.reduceMul, Int.reduceNeg, not_true_eq_false, not_false_eq_true, n2, e33, vv, qv, e11a, e11b, q']
        exact hR
    · refine s_Model_bound_160 hF hg ?_
      by_cases q : A M0 228 a = A M0 228 b ∧ 0 < z
      · rw [if_pos q] at mb
        have e := (l2 q).2
        have z0 : ¬ z < 0 := by omega
        by_cases qy : y ≤ z
        · rw [if_pos qy] at e
          rw [e] at hR
          simp (config := { maxSteps := 1000000 }) (disch := (first | omega | decide | assumption)) only [ltm_s, ok_n, rd_i, rd_j, fd_i, fd_j, wr_i, wr_j, fw_i, fw_j, ci_s, cj_s, cv_s, dv_n, dw_n, rt_1, rt_b, rt_20, rt_21, okb_0, okb_1, okb_b, nar_0, nar_1, nar_b, i_0, i_1, j_0, j_1, i_lit, j_lit, i_n, iI_add, iI_sub, iI_mul, iI_neg, jI_add, jI_sub, jI_mul, jI_neg, sh_1, an_1, xo_1, di_p, dj_p, i_64A, i_64, j_32, lq_ge, lq_lt, lq_le, lq_gt, lq_eq, i_lt, i_le, i_eq, j_eq, iI_A, jI_J, iI_b, iI_v, jI_v, ↓reduceIte, ite_true, ite_false, Int.reduceEq, Int.reduceLT, Int.reduceLE, Int.reduceAdd, Int.reduceSub, Int.reduceMul, Int.reduceNeg, not_true_eq_false, not_false_eq_true, e228, n1, mg, mb, ww, qv, z0, qy]
          exact hR
        · rw [if_neg qy] at e
          rw [e] at hR
          simp (config := { maxSteps := 1000000 }) (disch := (first | omega | decide | assumption)) only [ltm_s, ok_n, rd_i, rd_j, fd_i, fd_j, wr_i, wr_j, fw_i, fw_j, ci_s, cj_s, cv_s, dv_n, dw_n, rt_1, rt_b, rt_20, rt_21, okb_0, okb_1, okb_b, nar_0, nar_1, nar_b, i_0, i_1, j_0, j_1, i_lit, j_lit, i_n, iI_add, iI_sub, iI_mul, iI_neg, jI_add, jI_sub, jI_mul, jI_neg, sh_1, an_1, xo_1, di_p, dj_p, i_64A, i_64, j_32, lq_ge, lq_lt, lq_le, lq_gt, lq_eq, i_lt, i_le, i_eq, j_eq, iI_A, jI_J, iI_b, iI_v, jI_v, ↓reduceIte, ite_true, ite_false, Int.reduceEq, Int.reduceLT, Int.reduceLE, Int.reduceAdd, Int.reduceSub, Int.reduceMul, Int.reduceNeg, not_true_eq_false, not_false_eq_true, e228, n1, mg, mb, ww, qv, z0, qy]
          exact hR
      · rw [if_neg q] at mb
        rw [(l3 q).2] at hR
        simp (config := { maxSteps := 1000000 }) (disch := (first | omega | decide | assumption)) only [ltm_s, ok_n, rd_i, rd_j, fd_i, fd_j, wr_i, wr_j, fw_i, fw_j, ci_s, cj_s, cv_s, dv_n, dw_n, rt_1, rt_b, rt_20, rt_21, okb_0, okb_1, okb_b, nar_0, nar_1, nar_b, i_0, i_1, j_0, j_1, i_lit, j_lit, i_n, iI_add, iI_sub, iI_mul, iI_neg, jI_add, jI_sub, jI_mul, jI_neg, sh_1, an_1, xo_1, di_p, dj_p, i_64A, i_64, j_32, lq_ge, lq_lt, lq_le, lq_gt, lq_eq, i_lt, i_le, i_eq, j_eq, iI_A, jI_J, iI_b, iI_v, jI_v, ↓reduceIte, ite_true, ite_false, Int.reduceEq, Int.reduceLT, Int.reduceLE, Int.reduceAdd, Int.reduceSub, Int.reduceMul, Int.reduceNeg, not_true_eq_false, not_false_eq_true, e228, n1, mg, mb, ww, qv]
        exact hR
  · have tr : 0 ≤ t ∧ t ≤ 2147484647 := by omega
    obtain ⟨x1, y1, hx1, hy1, h11⟩ : ∃ x1 y1 : Int, x1 = (if t < x then t else x) ∧ y1 = (if y ≤ t then y else t) ∧ lrel x1 y1 := by
      refine ⟨_, _, rfl, rfl, ?_⟩
      unfold lrel at hxy ⊢
      (repeat' split) <;> omega
    have xr1 : 0 ≤ x1 ∧ x1 ≤ 9223372036854775807 ∧ 0 ≤ y1 ∧ y1 ≤ 3000000000000 := by
      unfold lrel at h11; omega
    obtain ⟨x', y', l1, l2, l3⟩ := last x1 y1 h11
    have m1 := mj M x t xr.1 xr.2.1 (by omega) (by omega)
    rw [← hx1] at m1
    refine ⟨x', y', l1, fun R hR => ?_, fun R hR => ?_⟩
    · refine s_Finder_leastByProof_22 hF hg ha ?_
      by_cases q : A M0 228 a = A M0 228 b
      · by_cases q2 : z ≤ 0
        · rw [(l3 (by omega)).1] at hR
          simp (config := { maxSteps := 1000000 }) (disch := (first | omega | decide | assumption)) only [ltm_s, ok_n, rd_i, rd_j, fd_i, fd_j, wr_i, wr_j, fw_i, fw_j, ci_s, cj_s, cv_s, dv_n, dw_n, rt_1, rt_b, rt_20, rt_21, okb_0, okb_1, okb_b, nar_0, nar_1, nar_b, i_0, i_1, j_0, j_1, i_lit, j_lit, i_n, iI_add, iI_sub, iI_mul, iI_neg, jI_add, jI_sub, jI_mul, jI_neg, sh_1, an_1, xo_1, di_p, dj_p, i_64A, i_64, j_32, lq_ge, lq_lt, lq_le, lq_gt, lq_eq, i_lt, i_le, i_eq, j_eq, iI_A, jI_J, iI_b, iI_v, jI_v, ↓reduceIte, ite_true, ite_false, Int.reduceEq, Int.reduceLT, Int.reduceLE, Int.reduceAdd, Int.reduceSub, Int.reduceMul, Int.reduceNeg, not_true_eq_false, not_false_eq_true, n2, e33, vv, qv, ce, ht.symm, m1, e11a, e11b, eq_true q.symm, fa, q2]
          exact hR
        · rw [(l2 ⟨q, by omega⟩).1] at hR
          have m := mj M x1 z xr1.1 xr1.2.1 (by omega) (by omega)
          simp (config := { maxSteps := 1000000 }) (disch := (first | omega | decide | assumption)) only [ltm_s, ok_n, rd_i, rd_j, fd_i, fd_j, wr_i, wr_j, fw_i, fw_j, ci_s, cj_s, cv_s, dv_n, dw_n, rt_1, rt_b, rt_20, rt_21, okb_0, okb_1, okb_b, nar_0, nar_1, nar_b, i_0, i_1, j_0, j_1, i_lit, j_lit, i_n, iI_add, iI_sub, iI_mul, iI_neg, jI_add, jI_sub, jI_mul, jI_neg, sh_1, an_1, xo_1, di_p, dj_p, i_64A, i_64, j_32, lq_ge, lq_lt, lq_le, lq_gt, lq_eq, i_lt, i_le, i_eq, j_eq, iI_A, jI_J, iI_b, iI_v, jI_v, ↓reduceIte, ite_true, ite_false, Int.reduceEq, Int.reduceLT, Int.reduceLE, Int.reduceAdd, Int.reduceSub, Int.reduceMul, Int.reduceNeg, not_true_eq_false, not_false_eq_true, n2, e33, vv, qv, ce, ht.symm, m1, e11a, e11b, eq_true q.symm, fa, q2, m]
          exact hR
      · rw [(l3 (fun w => q w.1)).1] at hR
        have q' : ¬ A M0 228 b = A M0 228 a := fun w => q w.symm
        simp (config := { maxSteps := 1000000 }) (disch := (first | omega | decide | assumption)) only [ltm_s, ok_n, rd_i, rd_j, fd_i, fd_j, wr_i, wr_j, fw_i, fw_j, ci_s, cj_s, cv_s, dv_n, dw_n, rt_1, rt_b, rt_20, rt_21, okb_0, okb_1, okb_b, nar_0, nar_1, nar_b, i_0, i_1, j_0, j_1, i_lit, j_lit, i_n, iI_add, iI_sub, iI_mul, iI_neg, jI_add, jI_sub, jI_mul, jI_neg, sh_1, an_1, xo_1, di_p, dj_p, i_64A, i_64, j_32, lq_ge, lq_lt, lq_le, lq_gt, lq_eq, i_lt, i_le, i_eq, j_eq, iI_A, jI_J, iI_b, iI_v, jI_v, ↓reduceIte, ite_true, ite_false, Int.reduceEq, Int.reduceLT, Int.reduceLE, Int.reduceAdd, Int.reduceSub, Int.reduceMul, Int.reduceNeg, not_true_eq_false, not_false_eq_true, n2, e33, vv, qv, ce, ht.symm, m1, e11a, e11b, q']
        exact hR
    · refine s_Model_bound_160 hF hg ?_
      by_cases qt : y ≤ t
      · rw [if_pos qt] at hy1
        subst hy1
        by_cases q : A M0 228 a = A M0 228 b ∧ 0 < z
        · rw [if_pos q] at mb
          have e := (l2 q).2
          have z0 : ¬ z < 0 := by omega
          by_cases qy : y1 ≤ z
          · rw [if_pos qy] at e
            rw [e] at hR
            simp (config := { maxSteps := 1000000 }) (disch := (first | omega | decide | assumption)) only [ltm_s, ok_n, rd_i, rd_j, fd_i, fd_j, wr_i, wr_j, fw_i, fw_j, ci_s, cj_s, cv_s, dv_n, dw_n, rt_1, rt_b, rt_20, rt_21, okb_0, okb_1, okb_b, nar_0, nar_1, nar_b, i_0, i_1, j_0, j_1, i_lit, j_lit, i_n, iI_add, iI_sub, iI_mul, iI_neg, jI_add, jI_sub, jI_mul, jI_neg, sh_1, an_1, xo_1, di_p, dj_p, i_64A, i_64, j_32, lq_ge, lq_lt, lq_le, lq_gt, lq_eq, i_lt, i_le, i_eq, j_eq, iI_A, jI_J, iI_b, iI_v, jI_v, ↓reduceIte, ite_true, ite_false, Int.reduceEq, Int.reduceLT, Int.reduceLE, Int.reduceAdd, Int.reduceSub, Int.reduceMul, Int.reduceNeg, not_true_eq_false, not_false_eq_true, e228, n1, mg, mb, ww, qv, fd, ht.symm, qt, z0, qy]
            exact hR
          · rw [if_neg qy] at e
            rw [e] at hR
            simp (config := { maxSteps := 1000000 }) (disch := (first | omega | decide | assumption)) only [ltm_s, ok_n, rd_i, rd_j, fd_i, fd_j, wr_i, wr_j, fw_i, fw_j, ci_s, cj_s, cv_s, dv_n, dw_n, rt_1, rt_b, rt_20, rt_21, okb_0, okb_1, okb_b, nar_0, nar_1, nar_b, i_0, i_1, j_0, j_1, i_lit, j_lit, i_n, iI_add, iI_sub, iI_mul, iI_neg, jI_add, jI_sub, jI_mul, jI_neg, sh_1, an_1, xo_1, di_p, dj_p, i_64A, i_64, j_32, lq_ge, lq_lt, lq_le, lq_gt, lq_eq, i_lt, i_le, i_eq, j_eq, iI_A, jI_J, iI_b, iI_v, jI_v, ↓reduceIte, ite_true, ite_false, Int.reduceEq, Int.reduceLT, Int.reduceLE, Int.reduceAdd, Int.reduceSub, Int.reduceMul, Int.reduceNeg, not_true_eq_false, not_false_eq_true, e228, n1, mg, mb, ww, qv, fd, ht.symm, qt, z0, qy]
            exact hR
        · rw [if_neg q] at mb
          rw [(l3 q).2] at hR
          simp (config := { maxSteps := 1000000 }) (disch := (first | omega | decide | assumption)) only [ltm_s, ok_n, rd_i, rd_j, fd_i, fd_j, wr_i, wr_j, fw_i, fw_j, ci_s, cj_s, cv_s, dv_n, dw_n, rt_1, rt_b, rt_20, rt_21, okb_0, okb_1, okb_b, nar_0, nar_1, nar_b, i_0, i_1, j_0, j_1, i_lit, j_lit, i_n, iI_add, iI_sub, iI_mul, iI_neg, jI_add, jI_sub, jI_mul, jI_neg, sh_1, an_1, xo_1, di_p, dj_p, i_64A, i_64, j_32, lq_ge, lq_lt, lq_le, lq_gt, lq_eq, i_lt, i_le, i_eq, j_eq, iI_A, jI_J, iI_b, iI_v, jI_v, ↓reduceIte, ite_true, ite_false, Int.reduceEq, Int.reduceLT, Int.reduceLE, Int.reduceAdd, Int.reduceSub, Int.reduceMul, Int.reduceNeg, not_true_eq_false, not_false_eq_true, e228, n1, mg, mb, ww, qv, fd, ht.symm, qt]
          exact hR
      · rw [if_neg qt] at hy1
        subst hy1
        by_cases q : A M0 228 a = A M0 228 b ∧ 0 < z
        · rw [if_pos q] at mb
          have e := (l2 q).2
          have z0 : ¬ z < 0 := by omega
          by_cases qy : y1 ≤ z
          · rw [if_pos qy] at e
            rw [e] at hR
            simp (config := { maxSteps := 1000000 }) (disch := (first | omega | decide | assumption)) only [ltm_s, ok_n, rd_i, rd_j, fd_i, fd_j, wr_i, wr_j, fw_i, fw_j, ci_s, cj_s, cv_s, dv_n, dw_n, rt_1, rt_b, rt_20, rt_21, okb_0, okb_1, okb_b, nar_0, nar_1, nar_b, i_0, i_1, j_0, j_1, i_lit, j_lit, i_n, iI_add, iI_sub, iI_mul, iI_neg, jI_add, jI_sub, jI_mul, jI_neg, sh_1, an_1, xo_1, di_p, dj_p, i_64A, i_64, j_32, lq_ge, lq_lt, lq_le, lq_gt, lq_eq, i_lt, i_le, i_eq, j_eq, iI_A, jI_J, iI_b, iI_v, jI_v, ↓reduceIte, ite_true, ite_false, Int.reduceEq, Int.reduceLT, Int.reduceLE, Int.reduceAdd, Int.reduceSub, Int.reduceMul, Int.reduceNeg, not_true_eq_false, not_false_eq_true, e228, n1, mg, mb, ww, qv, fd, ht.symm, qt, z0, qy]
            exact hR
          · rw [if_neg qy] at e
            rw [e] at hR
            simp (config := { maxSteps := 1000000 }) (disch := (first | omega | decide | assumption)) only [ltm_s, ok_n, rd_i, rd_j, fd_i, fd_j, wr_i, wr_j, fw_i, fw_j, ci_s, cj_s, cv_s, dv_n, dw_n, rt_1, rt_b, rt_20, rt_21, okb_0, okb_1, okb_b, nar_0, nar_1, nar_b, i_0, i_1, j_0, j_1, i_lit, j_lit, i_n, iI_add, iI_sub, iI_mul, iI_neg, jI_add, jI_sub, jI_mul, jI_neg, sh_1, an_1, xo_1, di_p, dj_p, i_64A, i_64, j_32, lq_ge, lq_lt, lq_le, lq_gt, lq_eq, i_lt, i_le, i_eq, j_eq, iI_A, jI_J, iI_b, iI_v, jI_v, ↓reduceIte, ite_true, ite_false, Int.reduceEq, Int.reduceLT, Int.reduceLE, Int.reduceAdd, Int.reduceSub, Int.reduceMul, Int.reduceNeg, not_true_eq_false, not_false_eq_true, e228, n1, mg, mb, ww, qv, fd, ht.symm, qt, z0, qy]
            exact hR
        · rw [if_neg q] at mb
          rw [(l3 q).2] at hR
          simp (config := { maxSteps := 1000000 }) (disch := (first | omega | decide | assumption)) only [ltm_s, ok_n, rd_i, rd_j, fd_i, fd_j, wr_i, wr_j, fw_i, fw_j, ci_s, cj_s, cv_s, dv_n, dw_n, rt_1, rt_b, rt_20, rt_21, okb_0, okb_1, okb_b, nar_0, nar_1, nar_b, i_0, i_1, j_0, j_1, i_lit, j_lit, i_n, iI_add, iI_sub, iI_mul, iI_neg, jI_add, jI_sub, jI_mul, jI_neg, sh_1, an_1, xo_1, di_p, dj_p, i_64A, i_64, j_32, lq_ge, lq_lt, lq_le, lq_gt, lq_eq, i_lt, i_le, i_eq, j_eq, iI_A, jI_J, iI_b, iI_v, jI_v, ↓reduceIte, ite_true, ite_false, Int.reduceEq, Int.reduceLT, Int.reduceLE, Int.reduceAdd, Int.reduceSub, Int.reduceMul, Int.reduceNeg, not_true_eq_false, not_false_eq_true, e228, n1, mg, mb, ww, qv, fd, ht.symm, qt]
          exact hR
end Bo
