/-! PLAN: a better row is kept; how many rows there are -/
section Pu
variable {M0 M N M' : am_M} {g : am_G} {F : am_FT}
theorem c_put_l (hF : F = am_F T0 g) (hg : GG g) {a : Nat} (ha : isPu g a) {n first day rows best row : Int} (n4 : n ≤ 4) : ∀ (mm j : Nat) (N : am_M), (j : Int) + mm = n → (∀ i : Int, 0 ≤ i → i < n → 0 ≤ A N 60 i ∧ A N 60 i < 4) → (∀ i : Int, 0 ≤ i → i < (j : Int) → A N 218 i = A N 58 (A N 60 i)) → ∃ N' : am_M, (∀ R, F 222 33 [.ref 42, .ref a, .ref 218, .int (iI n), .int (iI first), .int (iI day), .int (iI rows), .int (iI best), .int (iI (row + 1))] [] N' = some R → F 222 73 [.ref 42, .ref a, .ref 218, .int (iI n), .int (iI first), .int (iI day), .int (iI rows), .int (iI best), .int (iI row), .int (iI j)] [] N = some R) ∧ Ch [218] [] N N' ∧ ∀ i : Int, 0 ≤ i → i < n → A N' 218 i = A N 58 (A N 60 i) := by
  intro mm
  induction mm with
  | zero =>
    intro j N hj hr h
    have u : n ≤ (j : Int) := by omega
    refine ⟨N, fun R hR => ?_, Ch.refl, fun i i0 i1 => h i i0 (by omega)⟩
    refine s_Links_planRides_73 hF hg ha ?_
    simp (config := { maxSteps := 1000000 }) (disch := (first | omega | decide | assumption)) only [ltm_s, ok_n, rd_i, rd_j, fd_i, fd_j, wr_i, wr_j, fw_i, fw_j, ci_s, cj_s, cv_s, dv_n, dw_n, rt_1, rt_b, rt_20, rt_21, okb_0, okb_1, okb_b, nar_0, nar_1, nar_b, i_0, i_1, j_0, j_1, i_lit, j_lit, i_n, iI_add, iI_sub, iI_mul, iI_neg, jI_add, jI_sub, jI_mul, jI_neg, sh_1, an_1, xo_1, di_p, dj_p, i_64A, i_64, j_32, lq_ge, lq_lt, lq_le, lq_gt, lq_eq, i_lt, i_le, i_eq, j_eq, iI_A, jI_J, iI_b, iI_v, jI_v, ↓reduceIte, ite_true, ite_false, Int.reduceEq, Int.reduceLT, Int.reduceLE, Int.reduceAdd, Int.reduceSub, Int.reduceMul, Int.reduceNeg, not_true_eq_false, not_false_eq_true, u]
    exact hR
  | succ mm ih =>
    intro j N hj hr h
    have u : ¬ n ≤ (j : Int) := by omega
    have hs : (j : Int) + 1 = ((j + 1 : Nat) : Int) := by omega
    have rj := hr j (by omega) (by omega)
    obtain ⟨N', q1, q2, q3⟩ := ih (j + 1) (W_ N 218 j (A N 58 (A N 60 j))) (by omega) (fun i i0 i1 => by rw [A_Wn (by decide)]; exact hr i i0 i1) (fun i i0 i1 => by
      rw [A_Wn (b := 58) (by decide), A_Wn (b := 60) (by decide)]
      by_cases e : i = j
      · rw [e, A_WA]
      · rw [A_Wo (by omega) i0 e]; exact h i i0 (by omega))
    refine ⟨N', fun R hR => ?_, (Ch.refl.wm (Or.inl (by decide))).trans q2, fun i i0 i1 => by
      rw [q3 i i0 i1, A_Wn (b := 58) (by decide), A_Wn (b := 60) (by decide)]⟩
    refine s_Links_planRides_73 hF hg ha ?_
    simp (config := { maxSteps := 1000000 }) (disch := (first | omega | decide | assumption)) only [ltm_s, ok_n, rd_i, rd_j, fd_i, fd_j, wr_i, wr_j, fw_i, fw_j, ci_s, cj_s, cv_s, dv_n, dw_n, rt_1, rt_b, rt_20, rt_21, okb_0, okb_1, okb_b, nar_0, nar_1, nar_b, i_0, i_1, j_0, j_1, i_lit, j_lit, i_n, iI_add, iI_sub, iI_mul, iI_neg, jI_add, jI_sub, jI_mul, jI_neg, sh_1, an_1, xo_1, di_p, dj_p, i_64A, i_64, j_32, lq_ge, lq_lt, lq_le, lq_gt, lq_eq, i_lt, i_le, i_eq, j_eq, iI_A, jI_J, iI_b, iI_v, jI_v, ↓reduceIte, ite_true, ite_false, Int.reduceEq, Int.reduceLT, Int.reduceLE, Int.reduceAdd, Int.reduceSub, Int.reduceMul, Int.reduceNeg, not_true_eq_false, not_false_eq_true, u, hs]
    exact q1 R hR
theorem m_put_l (hF : F = am_F T0 g) (hg : GG g) {p n day m rows best row : Int} (n4 : n ≤ 4) : ∀ (mm j : Nat) (N : am_M), (j : Int) + mm = n → (∀ i : Int, 0 ≤ i → i < (j : Int) → A N 273 i = A N 272 i) → ∃ N' : am_M, (∀ R, F 191 151 [.ref 219, .int (iI p), .int (iI n), .int (iI day), .int (iI m), .int (iI rows), .int (iI best), .int (iI (row + 1))] [] N' = some R → F 191 265 [.ref 219, .int (iI p), .int (iI n), .int (iI day), .int (iI m), .int (iI rows), .int (iI best), .int (iI row), .int (iI j)] [] N = some R) ∧ Ch [273] [] N N' ∧ ∀ i : Int, 0 ≤ i → i < n → A N' 273 i = A N 272 i := by
  intro mm
  induction mm with
  | zero =>
    intro j N hj h
    have u : n ≤ (j : Int) := by omega
    refine ⟨N, fun R hR => ?_, Ch.refl, fun i i0 i1 => h i i0 (by omega)⟩
    refine s_Model_plan_265 hF hg ?_
    simp (config := { maxSteps := 1000000 }) (disch := (first | omega | decide | assumption)) only [ltm_s, ok_n, rd_i, rd_j, fd_i, fd_j, wr_i, wr_j, fw_i, fw_j, ci_s, cj_s, cv_s, dv_n, dw_n, rt_1, rt_b, rt_20, rt_21, okb_0, okb_1, okb_b, nar_0, nar_1, nar_b, i_0, i_1, j_0, j_1, i_lit, j_lit, i_n, iI_add, iI_sub, iI_mul, iI_neg, jI_add, jI_sub, jI_mul, jI_neg, sh_1, an_1, xo_1, di_p, dj_p, i_64A, i_64, j_32, lq_ge, lq_lt, lq_le, lq_gt, lq_eq, i_lt, i_le, i_eq, j_eq, iI_A, jI_J, iI_b, iI_v, jI_v, ↓reduceIte, ite_true, ite_false, Int.reduceEq, Int.reduceLT, Int.reduceLE, Int.reduceAdd, Int.reduceSub, Int.reduceMul, Int.reduceNeg, not_true_eq_false, not_false_eq_true, u]
    exact hR
  | succ mm ih =>
    intro j N hj h
    have u : ¬ n ≤ (j : Int) := by omega
    have hs : (j : Int) + 1 = ((j + 1 : Nat) : Int) := by omega
    obtain ⟨N', q1, q2, q3⟩ := ih (j + 1) (W_ N 273 j (A N 272 j)) (by omega) (fun i i0 i1 => by
      rw [A_Wn (b := 272) (by decide)]
      by_cases e : i = j
      · rw [e, A_WA]
      · rw [A_Wo (by omega) i0 e]; exact h i i0 (by omega))
    refine ⟨N', fun R hR => ?_, (Ch.refl.wm (Or.inl (by decide))).trans q2, fun i i0 i1 => by
      rw [q3 i i0 i1, A_Wn (b := 272) (by decide)]⟩
    refine s_Model_plan_265 hF hg ?_
    simp (config := { maxSteps := 1000000 }) (disch := (first | omega | decide | assumption)) only [ltm_s, ok_n, rd_i, rd_j, fd_i, fd_j, wr_i, wr_j, fw_i, fw_j, ci_s, cj_s, cv_s, dv_n, dw_n, rt_1, rt_b, rt_20, rt_21, okb_0, okb_1, okb_b, nar_0, nar_1, nar_b, i_0, i_1, j_0, j_1, i_lit, j_lit, i_n, iI_add, iI_sub, iI_mul, iI_neg, jI_add, jI_sub, jI_mul, jI_neg, sh_1, an_1, xo_1, di_p, dj_p, i_64A, i_64, j_32, lq_ge, lq_lt, lq_le, lq_gt, lq_eq, i_lt, i_le, i_eq, j_eq, iI_A, jI_J, iI_b, iI_v, jI_v, ↓reduceIte, ite_true, ite_false, Int.reduceEq, Int.reduceLT, Int.reduceLE, Int.reduceAdd, Int.reduceSub, Int.reduceMul, Int.reduceNeg, not_true_eq_false, not_false_eq_true, u, hs]
    exact q1 R hR
theorem c_pw_l (hF : F = am_F T0 g) (hg : GG g) {a : Nat} (ha : isPu g a) {n first day m : Int} (m0 : 1 ≤ m) (m4 : m ≤ 4) (n4 : n ≤ 4) (h : A N 42 7 = m) {R : am_R} : ∀ mm j : Nat, (j : Int) + mm = n → F 222 33 [.ref 42, .ref a, .ref 218, .int (iI n), .int (iI first), .int (iI day), .int (iI (pw m n.toNat)), .int (iI (-1)), .int (iI 0)] [] N = some R → F 222 6 [.ref 42, .ref a, .ref 218, .int (iI n), .int (iI first), .int (iI day), .int (iI (pw m j)), .int (iI j)] [] N = some R := by
  intro mm
  induction mm with
  | zero =>
    intro j hj hR
    have u : n ≤ (j : Int) := by omega
    have e : n.toNat = j := by omega
    rw [e] at hR
    refine s_Links_planRides_6 hF hg ha ?_
    simp (config := { maxSteps := 1000000 }) (disch := (first | omega | decide | assumption)) only [ltm_s, ok_n, rd_i, rd_j, fd_i, fd_j, wr_i, wr_j, fw_i, fw_j, ci_s, cj_s, cv_s, dv_n, dw_n, rt_1, rt_b, rt_20, rt_21, okb_0, okb_1, okb_b, nar_0, nar_1, nar_b, i_0, i_1, j_0, j_1, i_lit, j_lit, i_n, iI_add, iI_sub, iI_mul, iI_neg, jI_add, jI_sub, jI_mul, jI_neg, sh_1, an_1, xo_1, di_p, dj_p, i_64A, i_64, j_32, lq_ge, lq_lt, lq_le, lq_gt, lq_eq, i_lt, i_le, i_eq, j_eq, iI_A, jI_J, iI_b, iI_v, jI_v, ↓reduceIte, ite_true, ite_false, Int.reduceEq, Int.reduceLT, Int.reduceLE, Int.reduceAdd, Int.reduceSub, Int.reduceMul, Int.reduceNeg, not_true_eq_false, not_false_eq_true, u]
    exact hR
  | succ mm ih =>
    intro j hj hR
    have u : ¬ n ≤ (j : Int) := by omega
    have hs : (j : Int) + 1 = ((j + 1 : Nat) : Int) := by omega
    have i1 := ih (j + 1) (by omega) hR
    have e : pw m (j + 1) = pw m j * m := rfl
    rw [e] at i1
    refine s_Links_planRides_6 hF hg ha ?_
    simp (config := { maxSteps := 1000000 }) (disch := (first | omega | decide | assumption)) only [ltm_s, ok_n, rd_i, rd_j, fd_i, fd_j, wr_i, wr_j, fw_i, fw_j, ci_s, cj_s, cv_s, dv_n, dw_n, rt_1, rt_b, rt_20, rt_21, okb_0, okb_1, okb_b, nar_0, nar_1, nar_b, i_0, i_1, j_0, j_1, i_lit, j_lit, i_n, iI_add, iI_sub, iI_mul, iI_neg, jI_add, jI_sub, jI_mul, jI_neg, sh_1, an_1, xo_1, di_p, dj_p, i_64A, i_64, j_32, lq_ge, lq_lt, lq_le, lq_gt, lq_eq, i_lt, i_le, i_eq, j_eq, iI_A, jI_J, iI_b, iI_v, jI_v, ↓reduceIte, ite_true, ite_false, Int.reduceEq, Int.reduceLT, Int.reduceLE, Int.reduceAdd, Int.reduceSub, Int.reduceMul, Int.reduceNeg, not_true_eq_false, not_false_eq_true, u, h, hs]
    exact i1
theorem m_pw_l (hF : F = am_F T0 g) (hg : GG g) {p n day m : Int} (m0 : 1 ≤ m) (m4 : m ≤ 4) (n4 : n ≤ 4) {R : am_R} : ∀ mm j : Nat, (j : Int) + mm = n → F 191 151 [.ref 219, .int (iI p), .int (iI n), .int (iI day), .int (iI m), .int (iI (pw m n.toNat)), .int (iI (-1)), .int (iI 0)] [] N = some R → F 191 126 [.ref 219, .int (iI p), .int (iI n), .int (iI day), .int (iI m), .int (iI (pw m j)), .int (iI j)] [] N = some R := by
  intro mm
  induction mm with
  | zero =>
    intro j hj hR
    have u : n ≤ (j : Int) := by omega
    have e : n.toNat = j := by omega
    rw [e] at hR
    refine s_Model_plan_126 hF hg ?_
    simp (config := { maxSteps := 1000000 }) (disch := (first | omega | decide | assumption)) only [ltm_s, ok_n, rd_i, rd_j, fd_i, fd_j, wr_i, wr_j, fw_i, fw_j, ci_s, cj_s, cv_s, dv_n, dw_n, rt_1, rt_b, rt_20, rt_21, okb_0, okb_1, okb_b, nar_0, nar_1, nar_b, i_0, i_1, j_0, j_1, i_lit, j_lit, i_n, iI_add, iI_sub, iI_mul, iI_neg, jI_add, jI_sub, jI_mul, jI_neg, sh_1, an_1, xo_1, di_p, dj_p, i_64A, i_64, j_32, lq_ge, lq_lt, lq_le, lq_gt, lq_eq, i_lt, i_le, i_eq, j_eq, iI_A, jI_J, iI_b, iI_v, jI_v, ↓reduceIte, ite_true, ite_false, Int.reduceEq, Int.reduceLT, Int.reduceLE, Int.reduceAdd, Int.reduceSub, Int.reduceMul, Int.reduceNeg, not_true_eq_false, not_false_eq_true, u]
    exact hR
  | succ mm ih =>
    intro j hj hR
    have u : ¬ n ≤ (j : Int) := by omega
    have hs : (j : Int) + 1 = ((j + 1 : Nat) : Int) := by omega
    have i1 := ih (j + 1) (by omega) hR
    have e : pw m (j + 1) = pw m j * m := rfl
    rw [e] at i1
    refine s_Model_plan_126 hF hg ?_
    simp (config := { maxSteps := 1000000 }) (disch := (first | omega | decide | assumption)) only [ltm_s, ok_n, rd_i, rd_j, fd_i, fd_j, wr_i, wr_j, fw_i, fw_j, ci_s, cj_s, cv_s, dv_n, dw_n, rt_1, rt_b, rt_20, rt_21, okb_0, okb_1, okb_b, nar_0, nar_1, nar_b, i_0, i_1, j_0, j_1, i_lit, j_lit, i_n, iI_add, iI_sub, iI_mul, iI_neg, jI_add, jI_sub, jI_mul, jI_neg, sh_1, an_1, xo_1, di_p, dj_p, i_64A, i_64, j_32, lq_ge, lq_lt, lq_le, lq_gt, lq_eq, i_lt, i_le, i_eq, j_eq, iI_A, jI_J, iI_b, iI_v, jI_v, ↓reduceIte, ite_true, ite_false, Int.reduceEq, Int.reduceLT, Int.reduceLE, Int.reduceAdd, Int.reduceSub, Int.reduceMul, Int.reduceNeg, not_true_eq_false, not_false_eq_true, u, hs]
    exact i1
end Pu
