/-! THE ROWS of a plan, one after the other, by both -/
section Dg
variable {M0 M N M' : am_M} {g : am_G} {F : am_FT}
theorem dig_l (hF : F = am_F T0 g) (hg : GG g) {p n day m rows best row : Int} (m0 : 1 ≤ m) (m4 : m ≤ 4) : ∀ (k : Nat) (left : Int) (N1 N2 : am_M), k ≤ 4 → 0 ≤ left → left < 1000 → A N1 42 7 = m → ∃ N1' N2' : am_M, F 36 7 [.ref 42, .int (iI left), .int (iI ((k : Int) - 1))] [] N1 = some (none, N1') ∧ (∀ R, F 191 205 [.ref 219, .int (iI p), .int (iI n), .int (iI day), .int (iI m), .int (iI rows), .int (iI best), .int (iI row), .int (iI 0)] [] N2' = some R → F 191 167 [.ref 219, .int (iI p), .int (iI n), .int (iI day), .int (iI m), .int (iI rows), .int (iI best), .int (iI row), .int (iI left), .int (iI ((k : Int) - 1))] [] N2 = some R) ∧ Ch [60] [] N1 N1' ∧ Ch [272] [] N2 N2' ∧ (∀ j : Int, 0 ≤ j → j < (k : Int) → (0 ≤ A N1' 60 j ∧ A N1' 60 j < m) ∧ A N2' 272 j = A N2 271 (A N1' 60 j)) ∧ ∀ j : Int, (k : Int) ≤ j → A N1' 60 j = A N1 60 j ∧ A N2' 272 j = A N2 272 j := by
  intro k
  induction k with
  | zero =>
    intro left N1 N2 _ l0 l1 h
    have e : ((0 : Nat) : Int) - 1 = -1 := by omega
    rw [e]
    refine ⟨N1, N2, ?_, fun R hR => ?_, Ch.refl, Ch.refl, fun j j0 j1 => by omega, fun _ _ => ⟨rfl, rfl⟩⟩
    · refine s_Links_chooseRow_7 hF hg ?_
      simp (config := { maxSteps := 1000000 }) (disch := (first | omega | decide | assumption)) only [ltm_s, ok_n, rd_i, rd_j, fd_i, fd_j, wr_i, wr_j, fw_i, fw_j, ci_s, cj_s, cv_s, dv_n, dw_n, rt_1, rt_b, rt_20, rt_21, okb_0, okb_1, okb_b, nar_0, nar_1, nar_b, i_0, i_1, j_0, j_1, i_lit, j_lit, i_n, iI_add, iI_sub, iI_mul, iI_neg, jI_add, jI_sub, jI_mul, jI_neg, sh_1, an_1, xo_1, di_p, dj_p, i_64A, i_64, j_32, lq_ge, lq_lt, lq_le, lq_gt, lq_eq, i_lt, i_le, i_eq, j_eq, iI_A, jI_J, iI_b, iI_v, jI_v, ↓reduceIte, ite_true, ite_false, Int.reduceEq, Int.reduceLT, Int.reduceLE, Int.reduceAdd, Int.reduceSub, Int.reduceMul, Int.reduceNeg, not_true_eq_false, not_false_eq_true]
    · refine s_Model_plan_167 hF hg ?_
      simp (config := { maxSteps := 1000000 }) (disch := (first | omega | decide | assumption)) only [ltm_s, ok_n, rd_i, rd_j, fd_i, fd_j, wr_i, wr_j, fw_i, fw_j, ci_s, cj_s, cv_s, dv_n, dw_n, rt_1, rt_b, rt_20, rt_21, okb_0, okb_1, okb_b, nar_0, nar_1, nar_b, i_0, i_1, j_0, j_1, i_lit, j_lit, i_n, iI_add, iI_sub, iI_mul, iI_neg, jI_add, jI_sub, jI_mul, jI_neg, sh_1, an_1, xo_1, di_p, dj_p, i_64A, i_64, j_32, lq_ge, lq_lt, lq_le, lq_gt, lq_eq, i_lt, i_le, i_eq, j_eq, iI_A, jI_J, iI_b, iI_v, jI_v, ↓reduceIte, ite_true, ite_false, Int.reduceEq, Int.reduceLT, Int.reduceLE, Int.reduceAdd, Int.reduceSub, Int.reduceMul, Int.reduceNeg, not_true_eq_false, not_false_eq_true]
      exact hR
  | succ k ih =>
    intro left N1 N2 hk l0 l1 h
    have e : ((k + 1 : Nat) : Int) - 1 = k := by omega
    rw [e]
    have u : ¬ (k : Int) < 0 := by omega
    have u2 : ¬ m ≤ 0 := by omega
    have hs : (k : Int) + -1 = (k : Int) - 1 := by omega
    have q0 : 0 ≤ left / m := Int.ediv_nonneg l0 (by omega)
    have q1 : left / m ≤ left := Int.ediv_le_self _ l0
    have dm : left - left / m * m = left % m := by
      have := Int.emod_add_mul_ediv left m
      rw [Int.mul_comm] at this
      omega
    have r0 := Int.emod_nonneg left (show m ≠ 0 by omega)
    have r1 := Int.emod_lt_of_pos left (show 0 < m by omega)
    obtain ⟨N1', N2', p1, p2, p3, p4, p5, p6⟩ := ih (left / m) (W_ N1 60 k (left % m)) (W_ N2 272 k (A N2 271 (left % m))) (by omega) q0 (by omega) (by rw [A_Wn (by decide)]; exact h)
    have h' : A (W_ N1 60 k (left % m)) 42 7 = m := by rw [A_Wn (by decide)]; exact h
    refine ⟨N1', N2', ?_, fun R hR => ?_, (Ch.refl.wm (Or.inl (by decide))).trans p3, (Ch.refl.wm (Or.inl (by decide))).trans p4, fun j j0 j1 => ?_, fun j j0 => ?_⟩
    · refine s_Links_chooseRow_7 hF hg ?_
      simp (config := { maxSteps := 1000000 }) (disch := (first | omega | decide | assumption)) only [ltm_s, ok_n, rd_i, rd_j, fd_i, fd_j, wr_i, wr_j, fw_i, fw_j, ci_s, cj_s, cv_s, dv_n, dw_n, rt_1, rt_b, rt_20, rt_21, okb_0, okb_1, okb_b, nar_0, nar_1, nar_b, i_0, i_1, j_0, j_1, i_lit, j_lit, i_n, iI_add, iI_sub, iI_mul, iI_neg, jI_add, jI_sub, jI_mul, jI_neg, sh_1, an_1, xo_1, di_p, dj_p, i_64A, i_64, j_32, lq_ge, lq_lt, lq_le, lq_gt, lq_eq, i_lt, i_le, i_eq, j_eq, iI_A, jI_J, iI_b, iI_v, jI_v, ↓reduceIte, ite_true, ite_false, Int.reduceEq, Int.reduceLT, Int.reduceLE, Int.reduceAdd, Int.reduceSub, Int.reduceMul, Int.reduceNeg, not_true_eq_false, not_false_eq_true, u, h, u2, dm, h', hs, p1]
    · refine s_Model_plan_167 hF hg ?_
      simp (config := { maxSteps := 1000000 }) (disch := (first | omega | decide | assumption)) only [ltm_s, ok_n, rd_i, rd_j, fd_i, fd_j, wr_i, wr_j, fw_i, fw_j, ci_s, cj_s, cv_s, dv_n, dw_n, rt_1, rt_b, rt_20, rt_21, okb_0, okb_1, okb_b, nar_0, nar_1, nar_b, i_0, i_1, j_0, j_1, i_lit, j_lit, i_n, iI_add, iI_sub, iI_mul, iI_neg, jI_add, jI_sub, jI_mul, jI_neg, sh_1, an_1, xo_1, di_p, dj_p, i_64A, i_64, j_32, lq_ge, lq_lt, lq_le, lq_gt, lq_eq, i_lt, i_le, i_eq, j_eq, iI_A, jI_J, iI_b, iI_v, jI_v, ↓reduceIte, ite_true, ite_false, Int.reduceEq, Int.reduceLT, Int.reduceLE, Int.reduceAdd, Int.reduceSub, Int.reduceMul, Int.reduceNeg, not_true_eq_false, not_false_eq_true, u, dm, hs]
      exact p2 R hR
    · by_cases q : j = k
      · have t := p6 k (Int.le_refl _)
        rw [q, t.1, t.2, A_Ws (by omega) (by omega), A_WA]
        exact ⟨⟨r0, r1⟩, rfl⟩
      · have t := p5 j j0 (by omega)
        rw [A_Wn (by decide)] at t
        exact t
    · have t := p6 j (by omega)
      rw [t.1, t.2, A_Wo (by omega) (by omega) (by omega), A_Wo (by omega) (by omega) (by omega)]
      exact ⟨rfl, rfl⟩
theorem dig (hF : F = am_F T0 g) (hg : GG g) {p n day m rows best row : Int} (m0 : 1 ≤ m) (m4 : m ≤ 4) (n0 : 1 ≤ n) (n4 : n ≤ 4) {N1 N2 : am_M} (l0 : 0 ≤ row) (l1 : row < 1000) (h : A N1 42 7 = m) : ∃ N1' N2' : am_M, F 36 0 [.ref 42, .int (iI row), .int (iI n)] [] N1 = some (none, N1') ∧ (∀ R, F 191 205 [.ref 219, .int (iI p), .int (iI n), .int (iI day), .int (iI m), .int (iI rows), .int (iI best), .int (iI row), .int (iI 0)] [] N2' = some R → F 191 167 [.ref 219, .int (iI p), .int (iI n), .int (iI day), .int (iI m), .int (iI rows), .int (iI best), .int (iI row), .int (iI row), .int (iI (n - 1))] [] N2 = some R) ∧ Ch [60] [] N1 N1' ∧ Ch [272] [] N2 N2' ∧ ∀ j : Int, 0 ≤ j → j < n → (0 ≤ A N1' 60 j ∧ A N1' 60 j < m) ∧ A N2' 272 j = A N2 271 (A N1' 60 j) := by
  obtain ⟨N1', N2', p1, p2, p3, p4, p5, -⟩ := dig_l hF hg (p := p) (n := n) (day := day) (rows := rows) (best := best) (row := row) m0 m4 n.toNat row N1 N2 (by omega) l0 l1 h
  rw [Int.toNat_of_nonneg (by omega)] at p1 p2
  refine ⟨N1', N2', ?_, p2, p3, p4, fun j j0 j1 => p5 j j0 (by omega)⟩
  refine s_Links_chooseRow hF hg ?_
  simp (config := { maxSteps := 1000000 }) (disch := (first | omega | decide | assumption)) only [ltm_s, ok_n, rd_i, rd_j, fd_i, fd_j, wr_i, wr_j, fw_i, fw_j, ci_s, cj_s, cv_s, dv_n, dw_n, rt_1, rt_b, rt_20, rt_21, okb_0, okb_1, okb_b, nar_0, nar_1, nar_b, i_0, i_1, j_0, j_1, i_lit, j_lit, i_n, iI_add, iI_sub, iI_mul, iI_neg, jI_add, jI_sub, jI_mul, jI_neg, sh_1, an_1, xo_1, di_p, dj_p, i_64A, i_64, j_32, lq_ge, lq_lt, lq_le, lq_gt, lq_eq, i_lt, i_le, i_eq, j_eq, iI_A, jI_J, iI_b, iI_v, jI_v, ↓reduceIte, ite_true, ite_false, Int.reduceEq, Int.reduceLT, Int.reduceLE, Int.reduceAdd, Int.reduceSub, Int.reduceMul, Int.reduceNeg, not_true_eq_false, not_false_eq_true]
  exact p1
/-- how many rows there are -/
def pw (m : Int) : Nat → Int
  | 0 => 1
  | n + 1 => pw m n * m
theorem pw_r {m : Int} (m0 : 1 ≤ m) (m4 : m ≤ 4) {n : Nat} (n4 : n ≤ 4) : 1 ≤ pw m n ∧ pw m n ≤ 256 := by
  have hm : m = 1 ∨ m = 2 ∨ m = 3 ∨ m = 4 := by omega
  have hn : n = 0 ∨ n = 1 ∨ n = 2 ∨ n = 3 ∨ n = 4 := by omega
  rcases hm with rfl | rfl | rfl | rfl <;> rcases hn with rfl | rfl | rfl | rfl | rfl <;> decide
end Dg
