/-! MARKS: each side by itself -/
section Mk
variable {M0 M N M' : am_M} {g : am_G} {F : am_FT}
theorem cv_in {β : Type} {r : Option am_R} {M' : am_M} {κ : am_M → Option β} {R : Option β} (h : r = some (none, M')) (k : κ M' = R) : am_cv r κ = R := by rw [h]; exact k
theorem m_rules_l (hF : F = am_F T0 g) (hg : GG g) (h16 : I16 M0) {V : Int → Int} {k day : Int} (k0 : 0 ≤ k) (k1 : k < 24) (e45 : A M 219 45 = A M0 219 45) (e253 : ∀ z, A M 253 z = A M0 253 z) (e254 : ∀ z, A M 254 z = A M0 254 z) (e255 : ∀ z, A M 255 z = A M0 255 z) (e14 : A M 219 14 = day) (hV : ∀ f : Int, 0 ≤ f → f ≤ 5 → J M 276 f = V f) (vb : ∀ f : Int, -1000000000 ≤ V f ∧ V f ≤ 1000000000) : ∀ n r : Nat, (r : Int) + n = A M0 219 45 → F 266 222 [.ref 219, .int (iI k), .int (iI (100 - tot M0 V r)), .int (iI r)] [] M = some (none, W_ (W_ M 256 (8 * k + 5) (mkx M0 V)) 256 (8 * k + 7) day) := by
  have h6 := h16.1
  intro n
  induction n with
  | zero =>
    intro r hr
    have u : A M0 219 45 ≤ (r : Int) := by omega
    have ek : (A M0 219 45).toNat = r := by omega
    have tr := tot_r h16 (V := V) r (by omega)
    have e14' : ∀ x y, A (W_ M 256 x y) 219 14 = day := fun x y => by rw [A_Wn (by decide)]; exact e14
    refine s_Model_marks_222 hF hg ?_
    by_cases q : 0 ≤ 100 - tot M0 V r
    · have em : mkx M0 V = 100 - tot M0 V r := by unfold mkx; rw [ek, if_neg (by omega)]
      rw [em]
      simp (config := { maxSteps := 1000000 }) (disch := (first | omega | decide | assumption)) only [ltm_s, ok_n, rd_i, rd_j, fd_i, fd_j, wr_i, wr_j, fw_i, fw_j, ci_s, cj_s, cv_s, dv_n, dw_n, rt_1, rt_b, rt_20, rt_21, okb_0, okb_1, okb_b, nar_0, nar_1, nar_b, i_0, i_1, j_0, j_1, i_lit, j_lit, i_n, iI_add, iI_sub, iI_mul, iI_neg, jI_add, jI_sub, jI_mul, jI_neg, sh_1, an_1, xo_1, di_p, dj_p, i_64A, i_64, j_32, lq_ge, lq_lt, lq_le, lq_gt, lq_eq, i_lt, i_le, i_eq, j_eq, iI_A, jI_J, iI_b, iI_v, jI_v, ↓reduceIte, ite_true, ite_false, Int.reduceEq, Int.reduceLT, Int.reduceLE, Int.reduceAdd, Int.reduceSub, Int.reduceMul, Int.reduceNeg, not_true_eq_false, not_false_eq_true, e45, u, q, e14']
    · have em : mkx M0 V = 0 := by unfold mkx; rw [ek, if_pos (by omega)]
      rw [em]
      simp (config := { maxSteps := 1000000 }) (disch := (first | omega | decide | assumption)) only [ltm_s, ok_n, rd_i, rd_j, fd_i, fd_j, wr_i, wr_j, fw_i, fw_j, ci_s, cj_s, cv_s, dv_n, dw_n, rt_1, rt_b, rt_20, rt_21, okb_0, okb_1, okb_b, nar_0, nar_1, nar_b, i_0, i_1, j_0, j_1, i_lit, j_lit, i_n, iI_add, iI_sub, iI_mul, iI_neg, jI_add, jI_sub, jI_mul, jI_neg, sh_1, an_1, xo_1, di_p, dj_p, i_64A, i_64, j_32, lq_ge, lq_lt, lq_le, lq_gt, lq_eq, i_lt, i_le, i_eq, j_eq, iI_A, jI_J, iI_b, iI_v, jI_v, ↓reduceIte, ite_true, ite_false, Int.reduceEq, Int.reduceLT, Int.reduceLE, Int.reduceAdd, Int.reduceSub, Int.reduceMul, Int.reduceNeg, not_true_eq_false, not_false_eq_true, e45, u, q, e14']
  | succ n ih =>
    intro r hr
    have u : ¬ A M0 219 45 ≤ (r : Int) := by omega
    have hs : (r : Int) + 1 = ((r + 1 : Nat) : Int) := by omega
    have i1 := ih (r + 1) (by omega)
    have hb := h16.2.2 r (by omega) (by omega)
    have et : tot M0 V (r + 1) = tot M0 V r + ddr M0 V r := rfl
    rw [et, ← hs] at i1
    have iff : (∀ i : Int, 0 ≤ i → i < A M0 254 (r : Int) → tst V (A M0 255 (3 * (r : Int) + i))) ↔ ((1 : Int) = 1 ∧ ∀ j : Int, ((0 : Nat) : Int) ≤ j → j < A M0 254 (r : Int) → tst V (A M0 255 (3 * (r : Int) + j))) := ⟨fun h => ⟨rfl, fun j j0 j1 => h j (by omega) j1⟩, fun h i i0 i1 => h.2 i (by omega) i1⟩
    have ed : 100 - (tot M0 V r + ddr M0 V r) = 100 - tot M0 V r - bI ((1 : Int) = 1 ∧ ∀ j : Int, ((0 : Nat) : Int) ≤ j → j < A M0 254 (r : Int) → tst V (A M0 255 (3 * (r : Int) + j))) * A M0 253 r := by
      unfold ddr
      rw [bI_cg iff]
      omega
    rw [ed] at i1
    have mr := m_rule_l hF hg h16 (k := k) (r := r) (mark := 100 - tot M0 V r) (by omega) (by omega) (e254 r) (e253 r) e255 hV vb (A M0 254 r).toNat 0 1 (Or.inr rfl) (by have := hb.2.2.1; omega) i1
    refine s_Model_marks_222 hF hg ?_
    simp (config := { maxSteps := 1000000 }) (disch := (first | omega | decide | assumption)) only [ltm_s, ok_n, rd_i, rd_j, fd_i, fd_j, wr_i, wr_j, fw_i, fw_j, ci_s, cj_s, cv_s, dv_n, dw_n, rt_1, rt_b, rt_20, rt_21, okb_0, okb_1, okb_b, nar_0, nar_1, nar_b, i_0, i_1, j_0, j_1, i_lit, j_lit, i_n, iI_add, iI_sub, iI_mul, iI_neg, jI_add, jI_sub, jI_mul, jI_neg, sh_1, an_1, xo_1, di_p, dj_p, i_64A, i_64, j_32, lq_ge, lq_lt, lq_le, lq_gt, lq_eq, i_lt, i_le, i_eq, j_eq, iI_A, jI_J, iI_b, iI_v, jI_v, ↓reduceIte, ite_true, ite_false, Int.reduceEq, Int.reduceLT, Int.reduceLE, Int.reduceAdd, Int.reduceSub, Int.reduceMul, Int.reduceNeg, not_true_eq_false, not_false_eq_true, e45, u]
    exact mr
noncomputable def ovr (L ft_ Ls fs : Int) : Int := @ite _ (0 < L ∧ 0 < Ls ∧ 0 < fs ∧ fs < ft_) (Classical.propDecidable _) (100 * (ft_ - fs) / fs) 0
theorem ovr_r {L ft_ Ls fs : Int} (h : ft_ ≤ 4000000) : 0 ≤ ovr L ft_ Ls fs ∧ ovr L ft_ Ls fs ≤ 400000000 := by
  unfold ovr
  split
  · rename_i q
    have a : 0 ≤ 100 * (ft_ - fs) / fs := Int.ediv_nonneg (by omega) (by omega)
    have b : 100 * (ft_ - fs) / fs ≤ 100 * (ft_ - fs) := Int.ediv_le_self _ (by omega)
    omega
  · omega
theorem Vf_r {L wr ov ft_ day : Int} (L0 : 0 ≤ L ∧ L ≤ 80) (w0 : 0 ≤ wr ∧ wr ≤ 1) (o0 : 0 ≤ ov ∧ ov ≤ 400000000) (t0 : -1 ≤ ft_ ∧ ft_ ≤ 4000000) (d0 : 0 ≤ day ∧ day < 300) (f : Int) : -1000000000 ≤ Vf L wr ov ft_ day f ∧ Vf L wr ov ft_ day f ≤ 1000000000 := by
  unfold Vf
  (repeat' split) <;> omega
theorem rt_70 (hg : GG g) : isRt g 70 := ⟨hg.1 70 _ (by decide +kernel), hg.2.1 70 4 _ (by decide +kernel), hg.1 71 _ (by decide +kernel)⟩
theorem c_compare (hF : F = am_F T0 g) (hg : GG g) {a : Nat} (ha : isEx g a) {L ft_ Ls fs : Int} (h5 : A M (a + 1) 5 = L) (h7 : A M (a + 1) 7 = ft_) (s5 : A M 70 5 = Ls) (s7 : A M 70 7 = fs) (hne : 100 < a) (t0 : -1 ≤ ft_ ∧ ft_ ≤ 4000000) (t1 : -1 ≤ fs ∧ fs ≤ 4000000) : ∃ M' : am_M, F 14 0 [.ref a, .ref 70] [] M = some (none, M') ∧ A M' a 4 = ovr L ft_ Ls fs ∧ (∀ z : Int, 0 ≤ z → ¬ z = 4 → A M' a z = A M a z) ∧ Ke [a] M M' := by
  have K : Ke [a] M (W_ M a 4 0) := Ke.refl.w (List.mem_singleton.mpr rfl)
  have o5 : A (W_ M a 4 0) (a + 1) 5 = L := by rw [A_Wn (by omega)]; exact h5
  have o7 : A (W_ M a 4 0) (a + 1) 7 = ft_ := by rw [A_Wn (by omega)]; exact h7
  have p5 : A (W_ M a 4 0) 70 5 = Ls := by rw [A_Wn (by omega)]; exact s5
  have p7 : A (W_ M a 4 0) 70 7 = fs := by rw [A_Wn (by omega)]; exact s7
  by_cases q : 0 < L ∧ 0 < Ls ∧ 0 < fs ∧ fs < ft_
  · have eo : ovr L ft_ Ls fs = 100 * (ft_ - fs) / fs := by unfold ovr; rw [if_pos q]
    have hr := ovr_r (L := L) (Ls := Ls) (fs := fs) t0.2
    rw [eo] at hr
    refine ⟨W_ (W_ M a 4 0) a 4 (100 * (ft_ - fs) / fs), ?_, by rw [A_Ws (by omega) (by omega), eo], fun z z0 z1 => by rw [A_Wo (by omega) z0 z1, A_Wo (by omega) z0 z1], K.w (List.mem_singleton.mpr rfl)⟩
    refine s_Exam_compare hF hg ha (rt_70 hg) ?_
    have q1 : ¬ L ≤ 0 := by omega
    have q2 : ¬ Ls ≤ 0 := by omega
    have q3 : ¬ fs ≤ 0 := by omega
    have q4 : ¬ ft_ ≤ fs := by omega
    simp (config := { maxSteps := 1000000 }) (disch := (first | omega | decide | assumption)) only [ltm_s, ok_n, rd_i, rd_j, fd_i, fd_j, wr_i, wr_j, fw_i, fw_j, ci_s, cj_s, cv_s, dv_n, dw_n, rt_1, rt_b, rt_20, rt_21, okb_0, okb_1, okb_b, nar_0, nar_1, nar_b, i_0, i_1, j_0, j_1, i_lit, j_lit, i_n, iI_add, iI_sub, iI_mul, iI_neg, jI_add, jI_sub, jI_mul, jI_neg, sh_1, an_1, xo_1, di_p, dj_p, i_64A, i_64, j_32, lq_ge, lq_lt, lq_le, lq_gt, lq_eq, i_lt, i_le, i_eq, j_eq, iI_A, jI_J, iI_b, iI_v, jI_v, ↓reduceIte, ite_true, ite_false, Int.reduceEq, Int.reduceLT, Int.reduceLE, Int.reduceAdd, Int.reduceSub, Int.reduceMul, Int.reduceNeg, not_true_eq_false, not_false_eq_true, o5, o7, p5, p7, q1, q2, q3, q4]
  · have eo : ovr L ft_ Ls fs = 0 := by unfold ovr; rw [if_neg q]
    refine ⟨W_ M a 4 0, ?_, by rw [A_Ws (by omega) (by omega), eo], fun z z0 z1 => A_Wo (by omega) z0 z1, K⟩
    refine s_Exam_compare hF hg ha (rt_70 hg) ?_
    by_cases q1 : L ≤ 0
    · simp (config := { maxSteps := 1000000 }) (disch := (first | omega | decide | assumption)) only [ltm_s, ok_n, rd_i, rd_j, fd_i, fd_j, wr_i, wr_j, fw_i, fw_j, ci_s, cj_s, cv_s, dv_n, dw_n, rt_1, rt_b, rt_20, rt_21, okb_0, okb_1, okb_b, nar_0, nar_1, nar_b, i_0, i_1, j_0, j_1, i_lit, j_lit, i_n, iI_add, iI_sub, iI_mul, iI_neg, jI_add, jI_sub, jI_mul, jI_neg, sh_1, an_1, xo_1, di_p, dj_p, i_64A, i_64, j_32, lq_ge, lq_lt, lq_le, lq_gt, lq_eq, i_lt, i_le, i_eq, j_eq, iI_A, jI_J, iI_b, iI_v, jI_v, ↓reduceIte, ite_true, ite_false, Int.reduceEq, Int.reduceLT, Int.reduceLE, Int.reduceAdd, Int.reduceSub, Int.reduceMul, Int.reduceNeg, not_true_eq_false, not_false_eq_true, o5, q1]
    by_cases q2 : Ls ≤ 0
    · simp (config := { maxSteps := 1000000 }) (disch := (first | omega | decide | assumption)) only [ltm_s, ok_n, rd_i, rd_j, fd_i, fd_j, wr_i, wr_j, fw_i, fw_j, ci_s, cj_s, cv_s, dv_n, dw_n, rt_1, rt_b, rt_20, rt_21, okb_0, okb_1, okb_b, nar_0, nar_1, nar_b, i_0, i_1, j_0, j_1, i_lit, j_lit, i_n, iI_add, iI_sub, iI_mul, iI_neg, jI_add, jI_sub, jI_mul, jI_neg, sh_1, an_1, xo_1, di_p, dj_p, i_64A, i_64, j_32, lq_ge, lq_lt, lq_le, lq_gt, lq_eq, i_lt, i_le, i_eq, j_eq, iI_A, jI_J, iI_b, iI_v, jI_v, ↓reduceIte, ite_true, ite_false, Int.reduceEq, Int.reduceLT, Int.reduceLE, Int.reduceAdd, Int.reduceSub, Int.reduceMul, Int.reduceNeg, not_true_eq_false, not_false_eq_true, o5, p5, q1, q2]
    by_cases q3 : fs ≤ 0
    · simp (config := { maxSteps := 1000000 }) (disch := (first | omega | decide | assumption)) only [ltm_s, ok_n, rd_i, rd_j, fd_i, fd_j, wr_i, wr_j, fw_i, fw_j, ci_s, cj_s, cv_s, dv_n, dw_n, rt_1, rt_b, rt_20, rt_21, okb_0, okb_1, okb_b, nar_0, nar_1, nar_b, i_0, i_1, j_0, j_1, i_lit, j_lit, i_n, iI_add, iI_sub, iI_mul, iI_neg, jI_add, jI_sub, jI_mul, jI_neg, sh_1, an_1, xo_1, di_p, dj_p, i_64A, i_64, j_32, lq_ge, lq_lt, lq_le, lq_gt, lq_eq, i_lt, i_le, i_eq, j_eq, iI_A, jI_J, iI_b, iI_v, jI_v, ↓reduceIte, ite_true, ite_false, Int.reduceEq, Int.reduceLT, Int.reduceLE, Int.reduceAdd, Int.reduceSub, Int.reduceMul, Int.reduceNeg, not_true_eq_false, not_false_eq_true, o5, p5, p7, q1, q2, q3]
    have q4 : ft_ ≤ fs := by omega
    simp (config := { maxSteps := 1000000 }) (disch := (first | omega | decide | assumption)) only [ltm_s, ok_n, rd_i, rd_j, fd_i, fd_j, wr_i, wr_j, fw_i, fw_j, ci_s, cj_s, cv_s, dv_n, dw_n, rt_1, rt_b, rt_20, rt_21, okb_0, okb_1, okb_b, nar_0, nar_1, nar_b, i_0, i_1, j_0, j_1, i_lit, j_lit, i_n, iI_add, iI_sub, iI_mul, iI_neg, jI_add, jI_sub, jI_mul, jI_neg, sh_1, an_1, xo_1, di_p, dj_p, i_64A, i_64, j_32, lq_ge, lq_lt, lq_le, lq_gt, lq_eq, i_lt, i_le, i_eq, j_eq, iI_A, jI_J, iI_b, iI_v, jI_v, ↓reduceIte, ite_true, ite_false, Int.reduceEq, Int.reduceLT, Int.reduceLE, Int.reduceAdd, Int.reduceSub, Int.reduceMul, Int.reduceNeg, not_true_eq_false, not_false_eq_true, o5, o7, p5, p7, q1, q2, q3, q4]
end Mk
