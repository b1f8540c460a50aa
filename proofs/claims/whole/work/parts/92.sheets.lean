/-! SHEETS, by both -/
section Sh
variable {M0 M M' : am_M} {g : am_G} {F : am_FT} {W W' : List Nat} {Q : List (Nat × Nat)}
theorem Ch.sub (h : Ch W Q M M') (hs : ∀ a, a ∈ W → a ∈ W') : Ch W' Q M M' := fun a k ha hk => h a k (fun q => ha (hs a q)) hk
theorem sh_ok (hg : GG g) {s : Int} (s0 : 0 ≤ s) (s3 : s ≤ 3) : isSh g (210 + 2 * s.toNat) := by
  have : s = 0 ∨ s = 1 ∨ s = 2 ∨ s = 3 := by omega
  rcases this with rfl | rfl | rfl | rfl
  · exact ⟨hg.1 210 _ (by decide +kernel), hg.2.1 210 2 _ (by decide +kernel), hg.1 211 _ (by decide +kernel)⟩
  · exact ⟨hg.1 212 _ (by decide +kernel), hg.2.1 212 2 _ (by decide +kernel), hg.1 213 _ (by decide +kernel)⟩
  · exact ⟨hg.1 214 _ (by decide +kernel), hg.2.1 214 2 _ (by decide +kernel), hg.1 215 _ (by decide +kernel)⟩
  · exact ⟨hg.1 216 _ (by decide +kernel), hg.2.1 216 2 _ (by decide +kernel), hg.1 217 _ (by decide +kernel)⟩
theorem c_noSheet (hF : F = am_F T0 g) (hg : GG g) {v : Int} (v1 : -2147483648 ≤ v) (v2 : v < 2147483648) : F 153 0 [.int (iI v)] [] M = some (some (.int (iI (bI (v < 0 ∨ 3 < v)))), M) := by
  refine s_RunSayer_noSheet hF hg ?_
  simp (config := { maxSteps := 1000000 }) (disch := (first | omega | decide | assumption)) only [ltm_s, ok_n, rd_i, rd_j, fd_i, fd_j, wr_i, wr_j, fw_i, fw_j, ci_s, cj_s, cv_s, dv_n, dw_n, rt_1, rt_b, rt_20, rt_21, okb_0, okb_1, okb_b, nar_0, nar_1, nar_b, i_0, i_1, j_0, j_1, i_lit, j_lit, i_n, iI_add, iI_sub, iI_mul, iI_neg, jI_add, jI_sub, jI_mul, jI_neg, sh_1, an_1, xo_1, di_p, dj_p, i_64A, i_64, j_32, lq_ge, lq_lt, lq_le, lq_gt, lq_eq, i_lt, i_le, i_eq, j_eq, iI_A, jI_J, iI_b, iI_v, jI_v, ↓reduceIte, ite_true, ite_false, Int.reduceEq, Int.reduceLT, Int.reduceLE, Int.reduceAdd, Int.reduceSub, Int.reduceMul, Int.reduceNeg, not_true_eq_false, not_false_eq_true, c_outside hF hg]
theorem c_hasRow (hF : F = am_F T0 g) (hg : GG g) {a : Nat} (ha : isSh g a) {L i n : Int} (hl : A M a 1 = L) (l0 : 0 ≤ L) (l1 : L ≤ 100) (i1 : -2147483648 ≤ i) (i2 : i < 2147483648) (n1 : -2147483648 ≤ n) (n2 : n < 2147483648) : F 74 0 [.ref a, .int (iI i), .int (iI n)] [] M = some (some (.int (iI (bI (0 ≤ i ∧ 0 ≤ n ∧ n ≤ L ∧ i ≤ L - n)))), M) := by
  refine s_Sheet_hasRow hF hg ha ?_
  by_cases q1 : i < 0
  · rw [bI_f (by omega)]
    simp (config := { maxSteps := 1000000 }) (disch := (first | omega | decide | assumption)) only [ltm_s, ok_n, rd_i, rd_j, fd_i, fd_j, wr_i, wr_j, fw_i, fw_j, ci_s, cj_s, cv_s, dv_n, dw_n, rt_1, rt_b, rt_20, rt_21, okb_0, okb_1, okb_b, nar_0, nar_1, nar_b, i_0, i_1, j_0, j_1, i_lit, j_lit, i_n, iI_add, iI_sub, iI_mul, iI_neg, jI_add, jI_sub, jI_mul, jI_neg, sh_1, an_1, xo_1, di_p, dj_p, i_64A, i_64, j_32, lq_ge, lq_lt, lq_le, lq_gt, lq_eq, i_lt, i_le, i_eq, j_eq, iI_A, jI_J, iI_b, iI_v, jI_v, ↓reduceIte, ite_true, ite_false, Int.reduceEq, Int.reduceLT, Int.reduceLE, Int.reduceAdd, Int.reduceSub, Int.reduceMul, Int.reduceNeg, not_true_eq_false, not_false_eq_true, q1]
  by_cases q2 : n < 0
  · rw [bI_f (by omega)]
    simp (config := { maxSteps := 1000000 }) (disch := (first | omega | decide | assumption)) only [ltm_s, ok_n, rd_i, rd_j, fd_i, fd_j, wr_i, wr_j, fw_i, fw_j, ci_s, cj_s, cv_s, dv_n, dw_n, rt_1, rt_b, rt_20, rt_21, okb_0, okb_1, okb_b, nar_0, nar_1, nar_b, i_0, i_1, j_0, j_1, i_lit, j_lit, i_n, iI_add, iI_sub, iI_mul, iI_neg, jI_add, jI_sub, jI_mul, jI_neg, sh_1, an_1, xo_1, di_p, dj_p, i_64A, i_64, j_32, lq_ge, lq_lt, lq_le, lq_gt, lq_eq, i_lt, i_le, i_eq, j_eq, iI_A, jI_J, iI_b, iI_v, jI_v, ↓reduceIte, ite_true, ite_false, Int.reduceEq, Int.reduceLT, Int.reduceLE, Int.reduceAdd, Int.reduceSub, Int.reduceMul, Int.reduceNeg, not_true_eq_false, not_false_eq_true, q1, q2]
  by_cases q3 : L < n
  · rw [bI_f (by omega)]
    simp (config := { maxSteps := 1000000 }) (disch := (first | omega | decide | assumption)) only [ltm_s, ok_n, rd_i, rd_j, fd_i, fd_j, wr_i, wr_j, fw_i, fw_j, ci_s, cj_s, cv_s, dv_n, dw_n, rt_1, rt_b, rt_20, rt_21, okb_0, okb_1, okb_b, nar_0, nar_1, nar_b, i_0, i_1, j_0, j_1, i_lit, j_lit, i_n, iI_add, iI_sub, iI_mul, iI_neg, jI_add, jI_sub, jI_mul, jI_neg, sh_1, an_1, xo_1, di_p, dj_p, i_64A, i_64, j_32, lq_ge, lq_lt, lq_le, lq_gt, lq_eq, i_lt, i_le, i_eq, j_eq, iI_A, jI_J, iI_b, iI_v, jI_v, ↓reduceIte, ite_true, ite_false, Int.reduceEq, Int.reduceLT, Int.reduceLE, Int.reduceAdd, Int.reduceSub, Int.reduceMul, Int.reduceNeg, not_true_eq_false, not_false_eq_true, q1, q2, hl, q3]
  by_cases q4 : L - n < i
  · rw [bI_f (by omega)]
    simp (config := { maxSteps := 1000000 }) (disch := (first | omega | decide | assumption)) only [ltm_s, ok_n, rd_i, rd_j, fd_i, fd_j, wr_i, wr_j, fw_i, fw_j, ci_s, cj_s, cv_s, dv_n, dw_n, rt_1, rt_b, rt_20, rt_21, okb_0, okb_1, okb_b, nar_0, nar_1, nar_b, i_0, i_1, j_0, j_1, i_lit, j_lit, i_n, iI_add, iI_sub, iI_mul, iI_neg, jI_add, jI_sub, jI_mul, jI_neg, sh_1, an_1, xo_1, di_p, dj_p, i_64A, i_64, j_32, lq_ge, lq_lt, lq_le, lq_gt, lq_eq, i_lt, i_le, i_eq, j_eq, iI_A, jI_J, iI_b, iI_v, jI_v, ↓reduceIte, ite_true, ite_false, Int.reduceEq, Int.reduceLT, Int.reduceLE, Int.reduceAdd, Int.reduceSub, Int.reduceMul, Int.reduceNeg, not_true_eq_false, not_false_eq_true, q1, q2, hl, q3, q4]
  · rw [bI_t (by omega)]
    simp (config := { maxSteps := 1000000 }) (disch := (first | omega | decide | assumption)) only [ltm_s, ok_n, rd_i, rd_j, fd_i, fd_j, wr_i, wr_j, fw_i, fw_j, ci_s, cj_s, cv_s, dv_n, dw_n, rt_1, rt_b, rt_20, rt_21, okb_0, okb_1, okb_b, nar_0, nar_1, nar_b, i_0, i_1, j_0, j_1, i_lit, j_lit, i_n, iI_add, iI_sub, iI_mul, iI_neg, jI_add, jI_sub, jI_mul, jI_neg, sh_1, an_1, xo_1, di_p, dj_p, i_64A, i_64, j_32, lq_ge, lq_lt, lq_le, lq_gt, lq_eq, i_lt, i_le, i_eq, j_eq, iI_A, jI_J, iI_b, iI_v, jI_v, ↓reduceIte, ite_true, ite_false, Int.reduceEq, Int.reduceLT, Int.reduceLE, Int.reduceAdd, Int.reduceSub, Int.reduceMul, Int.reduceNeg, not_true_eq_false, not_false_eq_true, q1, q2, hl, q3, q4]
theorem c_become_l (hF : F = am_F T0 g) (hg : GG g) {a : Nat} (ha : isSh g a) : ∀ (n k : Nat) (M : am_M), k + n = 100 → (∀ i : Int, 0 ≤ i → i < (k : Int) → A M (a + 1) i = 0) → ∃ M' : am_M, F 73 12 [.ref a, .int (iI k)] [] M = some (none, M') ∧ Ch [a + 1] [] M M' ∧ ∀ i : Int, 0 ≤ i → i < 100 → A M' (a + 1) i = 0 := by
  intro n
  induction n with
  | zero =>
    intro k M hk h
    refine ⟨M, ?_, Ch.refl, fun i i0 i1 => h i i0 (by omega)⟩
    have q : 100 ≤ (k : Int) := by omega
    refine s_Sheet_become_12 hF hg ha ?_
    simp (config := { maxSteps := 1000000 }) (disch := (first | omega | decide | assumption)) only [ltm_s, ok_n, rd_i, rd_j, fd_i, fd_j, wr_i, wr_j, fw_i, fw_j, ci_s, cj_s, cv_s, dv_n, dw_n, rt_1, rt_b, rt_20, rt_21, okb_0, okb_1, okb_b, nar_0, nar_1, nar_b, i_0, i_1, j_0, j_1, i_lit, j_lit, i_n, iI_add, iI_sub, iI_mul, iI_neg, jI_add, jI_sub, jI_mul, jI_neg, sh_1, an_1, xo_1, di_p, dj_p, i_64A, i_64, j_32, lq_ge, lq_lt, lq_le, lq_gt, lq_eq, i_lt, i_le, i_eq, j_eq, iI_A, jI_J, iI_b, iI_v, jI_v, ↓reduceIte, ite_true, ite_false, Int.reduceEq, Int.reduceLT, Int.reduceLE, Int.reduceAdd, Int.reduceSub, Int.reduceMul, Int.reduceNeg, not_true_eq_false, not_false_eq_true, q]
  | succ n ih =>
    intro k M hk h
    have q : ¬ 100 ≤ (k : Int) := by omega
    have hs : (k : Int) + 1 = ((k + 1 : Nat) : Int) := by omega
    obtain ⟨M', p1, p2, p3⟩ := ih (k + 1) (W_ M (a + 1) k 0) (by omega) (fun i i0 i1 => by
      by_cases q2 : i = k
      · rw [q2]; simp (config := { maxSteps := 1000000 }) (disch := (first | omega | decide | assumption)) only [ltm_s, ok_n, rd_i, rd_j, fd_i, fd_j, wr_i, wr_j, fw_i, fw_j, ci_s, cj_s, cv_s, dv_n, dw_n, rt_1, rt_b, rt_20, rt_21, okb_0, okb_1, okb_b, nar_0, nar_1, nar_b, i_0, i_1, j_0, j_1, i_lit, j_lit, i_n, iI_add, iI_sub, iI_mul, iI_neg, jI_add, jI_sub, jI_mul, jI_neg, sh_1, an_1, xo_1, di_p, dj_p, i_64A, i_64, j_32, lq_ge, lq_lt, lq_le, lq_gt, lq_eq, i_lt, i_le, i_eq, j_eq, iI_A, jI_J, iI_b, iI_v, jI_v, ↓reduceIte, ite_true, ite_false, Int.reduceEq, Int.reduceLT, Int.reduceLE, Int.reduceAdd, Int.reduceSub, Int.reduceMul, Int.reduceNeg, not_true_eq_false, not_false_eq_true, A_Wn, A_WA, A_Wb, A_Ws, A_Wo, A_X, J_W, J_Xn, J_XJ, J_Xs, J_Xo]
      · rw [A_Wo (by omega) i0 q2]; exact h i i0 (by omega))
    refine ⟨M', ?_, (Ch.refl.wm (Or.inl (List.mem_singleton.mpr rfl))).trans p2, p3⟩
    refine s_Sheet_become_12 hF hg ha ?_
    simp (config := { maxSteps := 1000000 }) (disch := (first | omega | decide | assumption)) only [ltm_s, ok_n, rd_i, rd_j, fd_i, fd_j, wr_i, wr_j, fw_i, fw_j, ci_s, cj_s, cv_s, dv_n, dw_n, rt_1, rt_b, rt_20, rt_21, okb_0, okb_1, okb_b, nar_0, nar_1, nar_b, i_0, i_1, j_0, j_1, i_lit, j_lit, i_n, iI_add, iI_sub, iI_mul, iI_neg, jI_add, jI_sub, jI_mul, jI_neg, sh_1, an_1, xo_1, di_p, dj_p, i_64A, i_64, j_32, lq_ge, lq_lt, lq_le, lq_gt, lq_eq, i_lt, i_le, i_eq, j_eq, iI_A, jI_J, iI_b, iI_v, jI_v, ↓reduceIte, ite_true, ite_false, Int.reduceEq, Int.reduceLT, Int.reduceLE, Int.reduceAdd, Int.reduceSub, Int.reduceMul, Int.reduceNeg, not_true_eq_false, not_false_eq_true, q, hs, p1]
theorem c_become (hF : F = am_F T0 g) (hg : GG g) {a : Nat} (ha : isSh g a) {t n : Int} (t1 : -2147483648 ≤ t) (t2 : t < 2147483648) (n1 : -2147483648 ≤ n) (n2 : n < 2147483648) : ∃ M' : am_M, F 73 0 [.ref a, .int (iI t), .int (iI n)] [] M = some (none, M') ∧ Ch [a, a + 1] [] M M' ∧ A M' a 0 = t ∧ A M' a 1 = n ∧ ∀ i : Int, 0 ≤ i → i < 100 → A M' (a + 1) i = 0 := by
  obtain ⟨M', p1, p2, p3⟩ := c_become_l hF hg ha 100 0 (W_ (W_ M a 0 t) a 1 n) (by omega) (fun i i0 i1 => by omega)
  have hne : a ∉ [a + 1] := by
    rw [List.mem_singleton]; omega
  have e : ∀ z, A M' a z = A (W_ (W_ M a 0 t) a 1 n) a z := fun z => congrArg Int32.toInt (p2 a z.toNat hne (by simp only [List.not_mem_nil, not_false_eq_true])).1
  refine ⟨M', ?_, ?_, ?_, ?_, p3⟩
  · refine s_Sheet_become hF hg ha ?_
    simp (config := { maxSteps := 1000000 }) (disch := (first | omega | decide | assumption)) only [ltm_s, ok_n, rd_i, rd_j, fd_i, fd_j, wr_i, wr_j, fw_i, fw_j, ci_s, cj_s, cv_s, dv_n, dw_n, rt_1, rt_b, rt_20, rt_21, okb_0, okb_1, okb_b, nar_0, nar_1, nar_b, i_0, i_1, j_0, j_1, i_lit, j_lit, i_n, iI_add, iI_sub, iI_mul, iI_neg, jI_add, jI_sub, jI_mul, jI_neg, sh_1, an_1, xo_1, di_p, dj_p, i_64A, i_64, j_32, lq_ge, lq_lt, lq_le, lq_gt, lq_eq, i_lt, i_le, i_eq, j_eq, iI_A, jI_J, iI_b, iI_v, jI_v, ↓reduceIte, ite_true, ite_false, Int.reduceEq, Int.reduceLT, Int.reduceLE, Int.reduceAdd, Int.reduceSub, Int.reduceMul, Int.reduceNeg, not_true_eq_false, not_false_eq_true]
    exact p1
  · exact ((Ch.refl.wm (Or.inl (by simp only [List.mem_cons, true_or]))).wm (Or.inl (by simp only [List.mem_cons, true_or]))).trans (p2.sub (fun b hb => by rw [List.mem_singleton.mp hb]; simp only [List.mem_cons, true_or, or_true]))
  · rw [e]; simp (config := { maxSteps := 1000000 }) (disch := (first | omega | decide | assumption)) only [ltm_s, ok_n, rd_i, rd_j, fd_i, fd_j, wr_i, wr_j, fw_i, fw_j, ci_s, cj_s, cv_s, dv_n, dw_n, rt_1, rt_b, rt_20, rt_21, okb_0, okb_1, okb_b, nar_0, nar_1, nar_b, i_0, i_1, j_0, j_1, i_lit, j_lit, i_n, iI_add, iI_sub, iI_mul, iI_neg, jI_add, jI_sub, jI_mul, jI_neg, sh_1, an_1, xo_1, di_p, dj_p, i_64A, i_64, j_32, lq_ge, lq_lt, lq_le, lq_gt, lq_eq, i_lt, i_le, i_eq, j_eq, iI_A, jI_J, iI_b, iI_v, jI_v, ↓reduceIte, ite_true, ite_false, Int.reduceEq, Int.reduceLT, Int.reduceLE, Int.reduceAdd, Int.reduceSub, Int.reduceMul, Int.reduceNeg, not_true_eq_false, not_false_eq_true, A_Wn, A_WA, A_Wb, A_Ws, A_Wo, A_X, J_W, J_Xn, J_XJ, J_Xs, J_Xo]
  · rw [e]; simp (config := { maxSteps := 1000000 }) (disch := (first | omega | decide | assumption)) only [ltm_s, ok_n, rd_i, rd_j, fd_i, fd_j, wr_i, wr_j, fw_i, fw_j, ci_s, cj_s, cv_s, dv_n, dw_n, rt_1, rt_b, rt_20, rt_21, okb_0, okb_1, okb_b, nar_0, nar_1, nar_b, i_0, i_1, j_0, j_1, i_lit, j_lit, i_n, iI_add, iI_sub, iI_mul, iI_neg, jI_add, jI_sub, jI_mul, jI_neg, sh_1, an_1, xo_1, di_p, dj_p, i_64A, i_64, j_32, lq_ge, lq_lt, lq_le, lq_gt, lq_eq, i_lt, i_le, i_eq, j_eq, iI_A, jI_J, iI_b, iI_v, jI_v, ↓reduceIte, ite_true, ite_false, Int.reduceEq, Int.reduceLT, Int.reduceLE, Int.reduceAdd, Int.reduceSub, Int.reduceMul, Int.reduceNeg, not_true_eq_false, not_false_eq_true, A_Wn, A_WA, A_Wb, A_Ws, A_Wo, A_X, J_W, J_Xn, J_XJ, J_Xs, J_Xo]
theorem m_sheet_l (hF : F = am_F T0 g) (hg : GG g) {s : Int} (s0 : 0 ≤ s) (s3 : s ≤ 3) : ∀ (n k : Nat) (M : am_M), k + n = 100 → (∀ i : Int, 0 ≤ i → i < (k : Int) → A M 261 (100 * s + i) = 0) → ∃ M' : am_M, F 139 70 [.ref 219, .int (iI s), .int (iI k)] [] M = some (some (.int (iI 1)), M') ∧ Ch [261] [] M M' ∧ (∀ i : Int, 0 ≤ i → i < 100 → A M' 261 (100 * s + i) = 0) ∧ ∀ i : Int, 0 ≤ i → i < 100 * s ∨ 100 * s + 100 ≤ i → A M' 261 i = A M 261 i := by
  intro n
  induction n with
  | zero =>
    intro k M hk h
    refine ⟨M, ?_, Ch.refl, fun i i0 i1 => h i i0 (by omega), fun _ _ _ => rfl⟩
    have q : 100 ≤ (k : Int) := by omega
    refine s_Model_sheet_70 hF hg ?_
    simp (config := { maxSteps := 1000000 }) (disch := (first | omega | decide | assumption)) only [ltm_s, ok_n, rd_i, rd_j, fd_i, fd_j, wr_i, wr_j, fw_i, fw_j, ci_s, cj_s, cv_s, dv_n, dw_n, rt_1, rt_b, rt_20, rt_21, okb_0, okb_1, okb_b, nar_0, nar_1, nar_b, i_0, i_1, j_0, j_1, i_lit, j_lit, i_n, iI_add, iI_sub, iI_mul, iI_neg, jI_add, jI_sub, jI_mul, jI_neg, sh_1, an_1, xo_1, di_p, dj_p, i_64A, i_64, j_32, lq_ge, lq_lt, lq_le, lq_gt, lq_eq, i_lt, i_le, i_eq, j_eq, iI_A, jI_J, iI_b, iI_v, jI_v, ↓reduceIte, ite_true, ite_false, Int.reduceEq, Int.reduceLT, Int.reduceLE, Int.reduceAdd, Int.reduceSub, Int.reduceMul, Int.reduceNeg, not_true_eq_false, not_false_eq_true, q]
  | succ n ih =>
    intro k M hk h
    have q : ¬ 100 ≤ (k : Int) := by omega
    have hs : (k : Int) + 1 = ((k + 1 : Nat) : Int) := by omega
    obtain ⟨M', p1, p2, p3, p4⟩ := ih (k + 1) (W_ M 261 (100 * s + k) 0) (by omega) (fun i i0 i1 => by
      by_cases q2 : i = k
      · rw [q2]; simp (config := { maxSteps := 1000000 }) (disch := (first | omega | decide | assumption)) only [ltm_s, ok_n, rd_i, rd_j, fd_i, fd_j, wr_i, wr_j, fw_i, fw_j, ci_s, cj_s, cv_s, dv_n, dw_n, rt_1, rt_b, rt_20, rt_21, okb_0, okb_1, okb_b, nar_0, nar_1, nar_b, i_0, i_1, j_0, j_1, i_lit, j_lit, i_n, iI_add, iI_sub, iI_mul, iI_neg, jI_add, jI_sub, jI_mul, jI_neg, sh_1, an_1, xo_1, di_p, dj_p, i_64A, i_64, j_32, lq_ge, lq_lt, lq_le, lq_gt, lq_eq, i_lt, i_le, i_eq, j_eq, iI_A, jI_J, iI_b, iI_v, jI_v, ↓reduceIte, ite_true, ite_false, Int.reduceEq, Int.reduceLT, Int.reduceLE, Int.reduceAdd, Int.reduceSub, Int.reduceMul, Int.reduceNeg, not_true_eq_false, not_false_eq_true, A_Wn, A_WA, A_Wb, A_Ws, A_Wo, A_X, J_W, J_Xn, J_XJ, J_Xs, J_Xo]
      · rw [A_Wo (by omega) (by omega) (by omega)]; exact h i i0 (by omega))
    refine ⟨M', ?_, (Ch.refl.wm (Or.inl (List.mem_singleton.mpr rfl))).trans p2, p3, fun i i0 i1 => ?_⟩
    · refine s_Model_sheet_70 hF hg ?_
      simp (config := { maxSteps := 1000000 }) (disch := (first | omega | decide | assumption)) only [ltm_s, ok_n, rd_i, rd_j, fd_i, fd_j, wr_i, wr_j, fw_i, fw_j, ci_s, cj_s, cv_s, dv_n, dw_n, rt_1, rt_b, rt_20, rt_21, okb_0, okb_1, okb_b, nar_0, nar_1, nar_b, i_0, i_1, j_0, j_1, i_lit, j_lit, i_n, iI_add, iI_sub, iI_mul, iI_neg, jI_add, jI_sub, jI_mul, jI_neg, sh_1, an_1, xo_1, di_p, dj_p, i_64A, i_64, j_32, lq_ge, lq_lt, lq_le, lq_gt, lq_eq, i_lt, i_le, i_eq, j_eq, iI_A, jI_J, iI_b, iI_v, jI_v, ↓reduceIte, ite_true, ite_false, Int.reduceEq, Int.reduceLT, Int.reduceLE, Int.reduceAdd, Int.reduceSub, Int.reduceMul, Int.reduceNeg, not_true_eq_false, not_false_eq_true, q, hs, p1]
    · rw [p4 i i0 i1, A_Wo (by omega) (by omega) (by omega)]
theorem I18_up (h : I18 M) {s : Int} (s0 : 0 ≤ s) (s3 : s ≤ 3) (hb : B18 M' s) (hr : ∀ a : Nat, 210 ≤ a → a < 218 → ¬ a = 210 + 2 * s.toNat → ¬ a = 210 + 2 * s.toNat + 1 → ∀ z, A M' a z = A M a z) (h59 : ∀ i : Int, 0 ≤ i → ¬ i = s → A M' 259 i = A M 259 i) (h60 : ∀ i : Int, 0 ≤ i → ¬ i = s → A M' 260 i = A M 260 i) (h61 : ∀ i : Int, 0 ≤ i → i < 100 * s ∨ 100 * s + 100 ≤ i → A M' 261 i = A M 261 i) : I18 M' := by
  intro t t0 t1
  by_cases q : t = s
  · rw [q]; exact hb
  · obtain ⟨b1, b2, b3, b4, b5⟩ := h t t0 t1
    have e0 := hr (210 + 2 * t.toNat) (by omega) (by omega) (by omega) (by omega)
    have e1 := hr (210 + 2 * t.toNat + 1) (by omega) (by omega) (by omega) (by omega)
    refine ⟨by rw [h59 t t0 q]; exact b1, by rw [h60 t t0 q]; exact b2, by rw [e0, h59 t t0 q]; exact b3, by rw [e0, h60 t t0 q]; exact b4, fun i i0 i1 => ?_⟩
    rw [e1, h61 (100 * t + i) (by omega) (by omega)]
    exact b5 i i0 i1
/-- only sheets changed -/
theorem sh_inv (hI : Inv M) (c : Ch [210, 211, 212, 213, 214, 215, 216, 217, 259, 260, 261] [] M M') (h : I18 M') : Inv M' := by
  obtain ⟨h1, h2, h3, h4, h5, h6, h7, h8, h9, h10, h11, h12, h13, h14, h15, h16, h17, h18, h19, hm, ht⟩ := hI
  exact ⟨c.i1 rfl h1, c.i2 rfl h2, c.i3 rfl h3, c.i4 rfl h4, c.i5 rfl h5, c.i6 rfl h6, c.i7 rfl h7, c.i8 rfl h8, c.i9 rfl h9, c.i10 rfl h10, c.i11 rfl h11, c.i12 rfl h12, c.i13 rfl h13, c.i14 rfl h14, c.i15 rfl h15, c.i16 rfl h16, c.i17 rfl h17, h, c.i19 rfl h19, c.imk rfl hm, c.itd rfl ht⟩
theorem sh_mem {s : Int} (s0 : 0 ≤ s) (s3 : s ≤ 3) : ∀ a, a ∈ [210 + 2 * s.toNat, 210 + 2 * s.toNat + 1] → a ∈ [210, 211, 212, 213, 214, 215, 216, 217, 259, 260, 261] := by
  intro a ha
  simp only [List.mem_cons, List.not_mem_nil, or_false] at ha ⊢
  omega
theorem b_read (hF : F = am_F T0 g) (hg : GG g) (hI : Inv M) {s i : Int} (s1 : -2147483648 ≤ s) (s2 : s < 2147483648) (i1 : -2147483648 ≤ i) (i2 : i < 2147483648) :
    ∃ r : Int, F 207 0 [.ref 0, .int (iI s), .int (iI i)] [] M = some (some (.int (iI r)), M) ∧ F 133 0 [.ref 219, .int (iI s), .int (iI i)] [] M = some (some (.int (iI r)), M) := by
  obtain ⟨h1, h2, h3, h4, h5, h6, h7, h8, h9, h10, h11, h12, h13, h14, h15, h16, h17, h18, h19, hm, ht⟩ := hI
  have cs := c_noSheet hF hg (M := M) s1 s2
  have ms := m_inn hF hg (M := M) (v := s) (l := 0) (h := 3) s1 s2 (by omega) (by omega) (by omega) (by omega)
  by_cases q1 : s < 0 ∨ 3 < s
  · rw [bI_t q1] at cs
    rw [bI_f (by omega)] at ms
    refine ⟨-2, ?_, ?_⟩
    · refine s_RunSayer_read hF hg ?_
      simp (config := { maxSteps := 1000000 }) (disch := (first | omega | decide | assumption)) only [ltm_s, ok_n, rd_i, rd_j, fd_i, fd_j, wr_i, wr_j, fw_i, fw_j, ci_s, cj_s, cv_s, dv_n, dw_n, rt_1, rt_b, rt_20, rt_21, okb_0, okb_1, okb_b, nar_0, nar_1, nar_b, i_0, i_1, j_0, j_1, i_lit, j_lit, i_n, iI_add, iI_sub, iI_mul, iI_neg, jI_add, jI_sub, jI_mul, jI_neg, sh_1, an_1, xo_1, di_p, dj_p, i_64A, i_64, j_32, lq_ge, lq_lt, lq_le, lq_gt, lq_eq, i_lt, i_le, i_eq, j_eq, iI_A, jI_J, iI_b, iI_v, jI_v, ↓reduceIte, ite_true, ite_false, Int.reduceEq, Int.reduceLT, Int.reduceLE, Int.reduceAdd, Int.reduceSub, Int.reduceMul, Int.reduceNeg, not_true_eq_false, not_false_eq_true, cs]
    · refine s_Model_read hF hg ?_
      simp (config := { maxSteps := 1000000 }) (disch := (first | omega | decide | assumption)) only [ltm_s, ok_n, rd_i, rd_j, fd_i, fd_j, wr_i, wr_j, fw_i, fw_j, ci_s, cj_s, cv_s, dv_n, dw_n, rt_1, rt_b, rt_20, rt_21, okb_0, okb_1, okb_b, nar_0, nar_1, nar_b, i_0, i_1, j_0, j_1, i_lit, j_lit, i_n, iI_add, iI_sub, iI_mul, iI_neg, jI_add, jI_sub, jI_mul, jI_neg, sh_1, an_1, xo_1, di_p, dj_p, i_64A, i_64, j_32, lq_ge, lq_lt, lq_le, lq_gt, lq_eq, i_lt, i_le, i_eq, j_eq, iI_A, jI_J, iI_b, iI_v, jI_v, ↓reduceIte, ite_true, ite_false, Int.reduceEq, Int.reduceLT, Int.reduceLE, Int.reduceAdd, Int.reduceSub, Int.reduceMul, Int.reduceNeg, not_true_eq_false, not_false_eq_true, ms]
  rw [bI_f q1] at cs
  rw [bI_t (by omega)] at ms
  obtain ⟨b1, b2, b3, b4, b5⟩ := h18 s (by omega) (by omega)
  by_cases q2 : i < 0 ∨ A M 260 s - 1 < i
  · have q3 : ¬ (0 ≤ i ∧ i ≤ A M 260 s - 1) := by omega
    refine ⟨0, ?_, ?_⟩
    · refine s_RunSayer_read hF hg ?_
      simp (config := { maxSteps := 1000000 }) (disch := (first | omega | decide | assumption)) only [ltm_s, ok_n, rd_i, rd_j, fd_i, fd_j, wr_i, wr_j, fw_i, fw_j, ci_s, cj_s, cv_s, dv_n, dw_n, rt_1, rt_b, rt_20, rt_21, okb_0, okb_1, okb_b, nar_0, nar_1, nar_b, i_0, i_1, j_0, j_1, i_lit, j_lit, i_n, iI_add, iI_sub, iI_mul, iI_neg, jI_add, jI_sub, jI_mul, jI_neg, sh_1, an_1, xo_1, di_p, dj_p, i_64A, i_64, j_32, lq_ge, lq_lt, lq_le, lq_gt, lq_eq, i_lt, i_le, i_eq, j_eq, iI_A, jI_J, iI_b, iI_v, jI_v, ↓reduceIte, ite_true, ite_false, Int.reduceEq, Int.reduceLT, Int.reduceLE, Int.reduceAdd, Int.reduceSub, Int.reduceMul, Int.reduceNeg, not_true_eq_false, not_false_eq_true, iI_n, rdn_i, rdn_j, wrn_i, wrn_j, cs, b4, c_outside hF hg, bI_t q2]
    · refine s_Model_read hF hg ?_
      simp (config := { maxSteps := 1000000 }) (disch := (first | omega | decide | assumption)) only [ltm_s, ok_n, rd_i, rd_j, fd_i, fd_j, wr_i, wr_j, fw_i, fw_j, ci_s, cj_s, cv_s, dv_n, dw_n, rt_1, rt_b, rt_20, rt_21, okb_0, okb_1, okb_b, nar_0, nar_1, nar_b, i_0, i_1, j_0, j_1, i_lit, j_lit, i_n, iI_add, iI_sub, iI_mul, iI_neg, jI_add, jI_sub, jI_mul, jI_neg, sh_1, an_1, xo_1, di_p, dj_p, i_64A, i_64, j_32, lq_ge, lq_lt, lq_le, lq_gt, lq_eq, i_lt, i_le, i_eq, j_eq, iI_A, jI_J, iI_b, iI_v, jI_v, ↓reduceIte, ite_true, ite_false, Int.reduceEq, Int.reduceLT, Int.reduceLE, Int.reduceAdd, Int.reduceSub, Int.reduceMul, Int.reduceNeg, not_true_eq_false, not_false_eq_true, iI_n, rdn_i, rdn_j, wrn_i, wrn_j, ms, m_inn hF hg, bI_f q3]
  have q3 : 0 ≤ i ∧ i ≤ A M 260 s - 1 := by omega
  have b := b5 i (by omega) (by omega)
  refine ⟨A M 261 (100 * s + i), ?_, ?_⟩
  · refine s_RunSayer_read hF hg ?_
    simp (config := { maxSteps := 1000000 }) (disch := (first | omega | decide | assumption)) only [ltm_s, ok_n, rd_i, rd_j, fd_i, fd_j, wr_i, wr_j, fw_i, fw_j, ci_s, cj_s, cv_s, dv_n, dw_n, rt_1, rt_b, rt_20, rt_21, okb_0, okb_1, okb_b, nar_0, nar_1, nar_b, i_0, i_1, j_0, j_1, i_lit, j_lit, i_n, iI_add, iI_sub, iI_mul, iI_neg, jI_add, jI_sub, jI_mul, jI_neg, sh_1, an_1, xo_1, di_p, dj_p, i_64A, i_64, j_32, lq_ge, lq_lt, lq_le, lq_gt, lq_eq, i_lt, i_le, i_eq, j_eq, iI_A, jI_J, iI_b, iI_v, jI_v, ↓reduceIte, ite_true, ite_false, Int.reduceEq, Int.reduceLT, Int.reduceLE, Int.reduceAdd, Int.reduceSub, Int.reduceMul, Int.reduceNeg, not_true_eq_false, not_false_eq_true, iI_n, rdn_i, rdn_j, wrn_i, wrn_j, cs, b4, c_outside hF hg, bI_f q2, b]
  · refine s_Model_read hF hg ?_
    simp (config := { maxSteps := 1000000 }) (disch := (first | omega | decide | assumption)) only [ltm_s, ok_n, rd_i, rd_j, fd_i, fd_j, wr_i, wr_j, fw_i, fw_j, ci_s, cj_s, cv_s, dv_n, dw_n, rt_1, rt_b, rt_20, rt_21, okb_0, okb_1, okb_b, nar_0, nar_1, nar_b, i_0, i_1, j_0, j_1, i_lit, j_lit, i_n, iI_add, iI_sub, iI_mul, iI_neg, jI_add, jI_sub, jI_mul, jI_neg, sh_1, an_1, xo_1, di_p, dj_p, i_64A, i_64, j_32, lq_ge, lq_lt, lq_le, lq_gt, lq_eq, i_lt, i_le, i_eq, j_eq, iI_A, jI_J, iI_b, iI_v, jI_v, ↓reduceIte, ite_true, ite_false, Int.reduceEq, Int.reduceLT, Int.reduceLE, Int.reduceAdd, Int.reduceSub, Int.reduceMul, Int.reduceNeg, not_true_eq_false, not_false_eq_true, iI_n, rdn_i, rdn_j, wrn_i, wrn_j, ms, m_inn hF hg, bI_t q3]
theorem b_sheet (hF : F = am_F T0 g) (hg : GG g) (hI : Inv M) {s t n : Int} (s1 : -2147483648 ≤ s) (s2 : s < 2147483648) (t1 : -2147483648 ≤ t) (t2 : t < 2147483648) (n1 : -2147483648 ≤ n) (n2 : n < 2147483648) :
    ∃ (r : Int) (M1 M2 : am_M), F 209 0 [.ref 0, .int (iI s), .int (iI t), .int (iI n)] [] M = some (some (.int (iI r)), M1) ∧ F 139 0 [.ref 219, .int (iI s), .int (iI t), .int (iI n)] [] M1 = some (some (.int (iI r)), M2) ∧ Inv M2 := by
  have hI' := hI
  obtain ⟨h1, h2, h3, h4, h5, h6, h7, h8, h9, h10, h11, h12, h13, h14, h15, h16, h17, h18, h19, hm, ht⟩ := hI
  have cs := c_noSheet hF hg (M := M) s1 s2
  have ms : ∀ N : am_M, F 53 0 [.int (iI s), .int 0, .int 3] [] N = some (some (.int (iI (bI (0 ≤ s ∧ s ≤ 3)))), N) := fun N => m_inn (l := 0) (h := 3) hF hg s1 s2 (by omega) (by omega) (by omega) (by omega)
  have ct := c_outside hF hg (M := M) (v := t) (l := -1) (h := 2) t1 t2 (by omega) (by omega) (by omega) (by omega)
  have mt : ∀ N : am_M, F 53 0 [.int (iI t), .int (-1), .int 2] [] N = some (some (.int (iI (bI (-1 ≤ t ∧ t ≤ 2)))), N) := fun N => by
    rw [show (-1 : Int32) = iI (-1) by decide]
    exact m_inn (l := -1) (h := 2) hF hg t1 t2 (by omega) (by omega) (by omega) (by omega)
  by_cases q1 : s < 0 ∨ 3 < s
  · rw [bI_t q1] at cs
    rw [bI_f (by omega)] at ms
    refine ⟨-2, M, M, ?_, ?_, hI'⟩
    · refine s_RunSayer_sheet hF hg ?_
      simp (config := { maxSteps := 1000000 }) (disch := (first | omega | decide | assumption)) only [ltm_s, ok_n, rd_i, rd_j, fd_i, fd_j, wr_i, wr_j, fw_i, fw_j, ci_s, cj_s, cv_s, dv_n, dw_n, rt_1, rt_b, rt_20, rt_21, okb_0, okb_1, okb_b, nar_0, nar_1, nar_b, i_0, i_1, j_0, j_1, i_lit, j_lit, i_n, iI_add, iI_sub, iI_mul, iI_neg, jI_add, jI_sub, jI_mul, jI_neg, sh_1, an_1, xo_1, di_p, dj_p, i_64A, i_64, j_32, lq_ge, lq_lt, lq_le, lq_gt, lq_eq, i_lt, i_le, i_eq, j_eq, iI_A, jI_J, iI_b, iI_v, jI_v, ↓reduceIte, ite_true, ite_false, Int.reduceEq, Int.reduceLT, Int.reduceLE, Int.reduceAdd, Int.reduceSub, Int.reduceMul, Int.reduceNeg, not_true_eq_false, not_false_eq_true, cs]
    · refine s_Model_sheet hF hg ?_
      refine ci_in (ms M) ?_
      rfl
  rw [bI_f q1] at cs
  rw [bI_t (by omega)] at ms
  by_cases q2 : t < -1 ∨ 2 < t
  · rw [bI_t q2] at ct
    rw [bI_f (by omega)] at mt
    refine ⟨-2, M, M, ?_, ?_, hI'⟩
    · refine s_RunSayer_sheet hF hg ?_
      simp (config := { maxSteps := 1000000 }) (disch := (first | omega | decide | assumption)) only [ltm_s, ok_n, rd_i, rd_j, fd_i, fd_j, wr_i, wr_j, fw_i, fw_j, ci_s, cj_s, cv_s, dv_n, dw_n, rt_1, rt_b, rt_20, rt_21, okb_0, okb_1, okb_b, nar_0, nar_1, nar_b, i_0, i_1, j_0, j_1, i_lit, j_lit, i_n, iI_add, iI_sub, iI_mul, iI_neg, jI_add, jI_sub, jI_mul, jI_neg, sh_1, an_1, xo_1, di_p, dj_p, i_64A, i_64, j_32, lq_ge, lq_lt, lq_le, lq_gt, lq_eq, i_lt, i_le, i_eq, j_eq, iI_A, jI_J, iI_b, iI_v, jI_v, ↓reduceIte, ite_true, ite_false, Int.reduceEq, Int.reduceLT, Int.reduceLE, Int.reduceAdd, Int.reduceSub, Int.reduceMul, Int.reduceNeg, not_true_eq_false, not_false_eq_true, cs, ct]
    · refine s_Model_sheet hF hg ?_
      refine ci_in (ms M) ?_
      rw [if_neg (show ¬ iI 1 = 0 by decide)]
      refine ci_in (mt M) ?_
      rfl
  rw [bI_f q2] at ct
  rw [bI_t (by omega)] at mt
  have hsh := sh_ok hg (s := s) (by omega) (by omega)
  have sm := sh_mem (s := s) (by omega) (by omega)
  -- what is left when a sheet becomes another
  have fin : ∀ (t' n' : Int) (M1 : am_M), (-1 ≤ t' ∧ t' ≤ 2) → (0 ≤ n' ∧ n' ≤ 100) → F 73 0 [.ref (210 + 2 * s.toNat), .int (iI t'), .int (iI n')] [] M = some (none, M1) → Ch [210 + 2 * s.toNat, 210 + 2 * s.toNat + 1] [] M M1 → A M1 (210 + 2 * s.toNat) 0 = t' → A M1 (210 + 2 * s.toNat) 1 = n' → (∀ i : Int, 0 ≤ i → i < 100 → A M1 (210 + 2 * s.toNat + 1) i = 0) → ∃ M2 : am_M, F 139 70 [.ref 219, .int (iI s), .int (iI 0)] [] (W_ (W_ M1 259 s t') 260 s n') = some (some (.int (iI 1)), M2) ∧ Inv M2 := by
    intro t' n' M1 ht' hn' _ c1 x0 x1 x2
    obtain ⟨M2, p1, p2, p3, p4⟩ := m_sheet_l hF hg (s := s) (by omega) (by omega) 100 0 (W_ (W_ M1 259 s t') 260 s n') (by omega) (fun i i0 i1 => by omega)
    have c2 : Ch [259, 260, 261] [] M1 M2 := ((Ch.refl.wm (Or.inl (by decide))).wm (Or.inl (by decide))).trans (p2.sub (fun b hb => by rw [List.mem_singleton.mp hb]; decide))
    have c : Ch [210, 211, 212, 213, 214, 215, 216, 217, 259, 260, 261] [] M M2 := (c1.sub sm).trans (c2.sub (fun b hb => by
      simp only [List.mem_cons, List.not_mem_nil, or_false] at hb ⊢
      omega))
    have f1 : ∀ a : Nat, a < 218 → ∀ z, A M2 a z = A M1 a z := fun a ha z => congrArg Int32.toInt (c2 a z.toNat (by simp only [List.mem_cons, List.not_mem_nil, or_false]; omega) (by simp only [List.not_mem_nil, not_false_eq_true])).1
    have f2 : ∀ a : Nat, ¬ a = 210 + 2 * s.toNat → ¬ a = 210 + 2 * s.toNat + 1 → ∀ z, A M1 a z = A M a z := fun a h1 h2 z => congrArg Int32.toInt (c1 a z.toNat (by simp only [List.mem_cons, List.not_mem_nil, or_false]; omega) (by simp only [List.not_mem_nil, not_false_eq_true])).1
    have g59 : ∀ z, A M2 259 z = A (W_ (W_ M1 259 s t') 260 s n') 259 z := fun z => p2.a rfl
    have g60 : ∀ z, A M2 260 z = A (W_ (W_ M1 259 s t') 260 s n') 260 z := fun z => p2.a rfl
    refine ⟨M2, p1, sh_inv hI' c ?_⟩
    refine I18_up h18 (s := s) (by omega) (by omega) ?_ (fun a a0 a1 a2 a3 z => by rw [f1 a (by omega), f2 a a2 a3]) (fun i i0 i1 => ?_) (fun i i0 i1 => ?_) (fun i i0 i1 => ?_)
    · have k59 : A M2 259 s = t' := by rw [g59]; simp (config := { maxSteps := 1000000 }) (disch := (first | omega | decide | assumption)) only [ltm_s, ok_n, rd_i, rd_j, fd_i, fd_j, wr_i, wr_j, fw_i, fw_j, ci_s, cj_s, cv_s, dv_n, dw_n, rt_1, rt_b, rt_20, rt_21, okb_0, okb_1, okb_b, nar_0, nar_1, nar_b, i_0, i_1, j_0, j_1, i_lit, j_lit, i_n, iI_add, iI_sub, iI_mul, iI_neg, jI_add, jI_sub, jI_mul, jI_neg, sh_1, an_1, xo_1, di_p, dj_p, i_64A, i_64, j_32, lq_ge, lq_lt, lq_le, lq_gt, lq_eq, i_lt, i_le, i_eq, j_eq, iI_A, jI_J, iI_b, iI_v, jI_v, ↓reduceIte, ite_true, ite_false, Int.reduceEq, Int.reduceLT, Int.reduceLE, Int.reduceAdd, Int.reduceSub, Int.reduceMul, Int.reduceNeg, not_true_eq_false, not_false_eq_true, A_Wn, A_WA, A_Wb, A_Ws, A_Wo, A_X, J_W, J_Xn, J_XJ, J_Xs, J_Xo]
      have k60 : A M2 260 s = n' := by rw [g60]; simp (config := { maxSteps := 1000000 }) (disch := (first | omega | decide | assumption)) only [ltm_s, ok_n, rd_i, rd_j, fd_i, fd_j, wr_i, wr_j, fw_i, fw_j, ci_s, cj_s, cv_s, dv_n, dw_n, rt_1, rt_b, rt_20, rt_21, okb_0, okb_1, okb_b, nar_0, nar_1, nar_b, i_0, i_1, j_0, j_1, i_lit, j_lit, i_n, iI_add, iI_sub, iI_mul, iI_neg, jI_add, jI_sub, jI_mul, jI_neg, sh_1, an_1, xo_1, di_p, dj_p, i_64A, i_64, j_32, lq_ge, lq_lt, lq_le, lq_gt, lq_eq, i_lt, i_le, i_eq, j_eq, iI_A, jI_J, iI_b, iI_v, jI_v, ↓reduceIte, ite_true, ite_false, Int.reduceEq, Int.reduceLT, Int.reduceLE, Int.reduceAdd, Int.reduceSub, Int.reduceMul, Int.reduceNeg, not_true_eq_false, not_false_eq_true, A_Wn, A_WA, A_Wb, A_Ws, A_Wo, A_X, J_W, J_Xn, J_XJ, J_Xs, J_Xo]
      refine ⟨by rw [k59]; exact ht', by rw [k60]; exact hn', by rw [k59, f1 _ (by omega), x0], by rw [k60, f1 _ (by omega), x1], fun i i0 i1 => ?_⟩
      rw [f1 _ (by omega), x2 i i0 i1, p3 i i0 i1]
    · rw [g59, A_Wn (by decide), A_Wo (by omega) i0 i1, f2 259 (by omega) (by omega)]
    · rw [g60, A_Wo (by omega) i0 i1, A_Wn (by decide), f2 260 (by omega) (by omega)]
    · rw [p4 i i0 i1, A_Wn (by decide), A_Wn (by decide), f2 261 (by omega) (by omega)]
  by_cases q3 : t = -1
  · obtain ⟨M1, p1, p2, p3, p4, p5⟩ := c_become hF hg hsh (M := M) (t := -1) (n := 0) (by omega) (by omega) (by omega) (by omega)
    obtain ⟨M2, f1, f2⟩ := fin (-1) 0 M1 (by omega) (by omega) p1 p2 p3 p4 p5
    subst q3
    refine ⟨1, M1, M2, ?_, ?_, f2⟩
    · refine s_RunSayer_sheet hF hg ?_
      refine ci_in (cs) ?_
      rw [if_pos (show iI 0 = 0 from rfl)]
      refine ci_in (ct) ?_
      rw [if_pos (show iI 0 = 0 from rfl)]
      rw [if_pos (show iI (-1) = -1 by decide)]
      have hn : (iI s).toNatClampNeg = s.toNat := iI_n (by omega) (by omega)
      rw [hn, ok_n (by omega) (by omega) (by omega)]
      simp (config := { maxSteps := 1000000 }) (disch := (first | omega | decide | assumption)) only [ltm_s, ok_n, rd_i, rd_j, fd_i, fd_j, wr_i, wr_j, fw_i, fw_j, ci_s, cj_s, cv_s, dv_n, dw_n, rt_1, rt_b, rt_20, rt_21, okb_0, okb_1, okb_b, nar_0, nar_1, nar_b, i_0, i_1, j_0, j_1, i_lit, j_lit, i_n, iI_add, iI_sub, iI_mul, iI_neg, jI_add, jI_sub, jI_mul, jI_neg, sh_1, an_1, xo_1, di_p, dj_p, i_64A, i_64, j_32, lq_ge, lq_lt, lq_le, lq_gt, lq_eq, i_lt, i_le, i_eq, j_eq, iI_A, jI_J, iI_b, iI_v, jI_v, ↓reduceIte, ite_true, ite_false, Int.reduceEq, Int.reduceLT, Int.reduceLE, Int.reduceAdd, Int.reduceSub, Int.reduceMul, Int.reduceNeg, not_true_eq_false, not_false_eq_true, p1]
    · refine s_Model_sheet hF hg ?_
      refine ci_in (ms M1) ?_
      rw [if_neg (show ¬ iI 1 = 0 by decide)]
      refine ci_in (mt M1) ?_
      rw [if_neg (show ¬ iI 1 = 0 by decide)]
      simp (config := { maxSteps := 1000000 }) (disch := (first | omega | decide | assumption)) only [ltm_s, ok_n, rd_i, rd_j, fd_i, fd_j, wr_i, wr_j, fw_i, fw_j, ci_s, cj_s, cv_s, dv_n, dw_n, rt_1, rt_b, rt_20, rt_21, okb_0, okb_1, okb_b, nar_0, nar_1, nar_b, i_0, i_1, j_0, j_1, i_lit, j_lit, i_n, iI_add, iI_sub, iI_mul, iI_neg, jI_add, jI_sub, jI_mul, jI_neg, sh_1, an_1, xo_1, di_p, dj_p, i_64A, i_64, j_32, lq_ge, lq_lt, lq_le, lq_gt, lq_eq, i_lt, i_le, i_eq, j_eq, iI_A, jI_J, iI_b, iI_v, jI_v, ↓reduceIte, ite_true, ite_false, Int.reduceEq, Int.reduceLT, Int.reduceLE, Int.reduceAdd, Int.reduceSub, Int.reduceMul, Int.reduceNeg, not_true_eq_false, not_false_eq_true, A_Wn, A_WA, A_Wb, A_Ws, A_Wo, A_X, J_W, J_Xn, J_XJ, J_Xs, J_Xo, f1]
  by_cases q4 : 100 < n
  · refine ⟨-2, M, M, ?_, ?_, hI'⟩
    · refine s_RunSayer_sheet hF hg ?_
      have q5 : ¬ n ≤ 100 := by omega
      refine ci_in (cs) ?_
      rw [if_pos (show iI 0 = 0 from rfl)]
      simp (config := { maxSteps := 1000000 }) (disch := (first | omega | decide | assumption)) only [ltm_s, ok_n, rd_i, rd_j, fd_i, fd_j, wr_i, wr_j, fw_i, fw_j, ci_s, cj_s, cv_s, dv_n, dw_n, rt_1, rt_b, rt_20, rt_21, okb_0, okb_1, okb_b, nar_0, nar_1, nar_b, i_0, i_1, j_0, j_1, i_lit, j_lit, i_n, iI_add, iI_sub, iI_mul, iI_neg, jI_add, jI_sub, jI_mul, jI_neg, sh_1, an_1, xo_1, di_p, dj_p, i_64A, i_64, j_32, lq_ge, lq_lt, lq_le, lq_gt, lq_eq, i_lt, i_le, i_eq, j_eq, iI_A, jI_J, iI_b, iI_v, jI_v, ↓reduceIte, ite_true, ite_false, Int.reduceEq, Int.reduceLT, Int.reduceLE, Int.reduceAdd, Int.reduceSub, Int.reduceMul, Int.reduceNeg, not_true_eq_false, not_false_eq_true, ct, q3, q5]
    · refine s_Model_sheet hF hg ?_
      have q5 : ¬ n ≤ 100 := by omega
      refine ci_in (ms M) ?_
      rw [if_neg (show ¬ iI 1 = 0 by decide)]
      refine ci_in (mt M) ?_
      rw [if_neg (show ¬ iI 1 = 0 by decide)]
      simp (config := { maxSteps := 1000000 }) (disch := (first | omega | decide | assumption)) only [ltm_s, ok_n, rd_i, rd_j, fd_i, fd_j, wr_i, wr_j, fw_i, fw_j, ci_s, cj_s, cv_s, dv_n, dw_n, rt_1, rt_b, rt_20, rt_21, okb_0, okb_1, okb_b, nar_0, nar_1, nar_b, i_0, i_1, j_0, j_1, i_lit, j_lit, i_n, iI_add, iI_sub, iI_mul, iI_neg, jI_add, jI_sub, jI_mul, jI_neg, sh_1, an_1, xo_1, di_p, dj_p, i_64A, i_64, j_32, lq_ge, lq_lt, lq_le, lq_gt, lq_eq, i_lt, i_le, i_eq, j_eq, iI_A, jI_J, iI_b, iI_v, jI_v, ↓reduceIte, ite_true, ite_false, Int.reduceEq, Int.reduceLT, Int.reduceLE, Int.reduceAdd, Int.reduceSub, Int.reduceMul, Int.reduceNeg, not_true_eq_false, not_false_eq_true, q3, q5]
  have q5 : n ≤ 100 := by omega
  by_cases q6 : n < 0
  · refine ⟨-14, M, M, ?_, ?_, hI'⟩
    · refine s_RunSayer_sheet hF hg ?_
      have q7 : ¬ 0 ≤ n := by omega
      refine ci_in (cs) ?_
      rw [if_pos (show iI 0 = 0 from rfl)]
      simp (config := { maxSteps := 1000000 }) (disch := (first | omega | decide | assumption)) only [ltm_s, ok_n, rd_i, rd_j, fd_i, fd_j, wr_i, wr_j, fw_i, fw_j, ci_s, cj_s, cv_s, dv_n, dw_n, rt_1, rt_b, rt_20, rt_21, okb_0, okb_1, okb_b, nar_0, nar_1, nar_b, i_0, i_1, j_0, j_1, i_lit, j_lit, i_n, iI_add, iI_sub, iI_mul, iI_neg, jI_add, jI_sub, jI_mul, jI_neg, sh_1, an_1, xo_1, di_p, dj_p, i_64A, i_64, j_32, lq_ge, lq_lt, lq_le, lq_gt, lq_eq, i_lt, i_le, i_eq, j_eq, iI_A, jI_J, iI_b, iI_v, jI_v, ↓reduceIte, ite_true, ite_false, Int.reduceEq, Int.reduceLT, Int.reduceLE, Int.reduceAdd, Int.reduceSub, Int.reduceMul, Int.reduceNeg, not_true_eq_false, not_false_eq_true, ct, q3, q5, q7]
    · refine s_Model_sheet hF hg ?_
      have q7 : ¬ 0 ≤ n := by omega
      refine ci_in (ms M) ?_
      rw [if_neg (show ¬ iI 1 = 0 by decide)]
      refine ci_in (mt M) ?_
      rw [if_neg (show ¬ iI 1 = 0 by decide)]
      simp (config := { maxSteps := 1000000 }) (disch := (first | omega | decide | assumption)) only [ltm_s, ok_n, rd_i, rd_j, fd_i, fd_j, wr_i, wr_j, fw_i, fw_j, ci_s, cj_s, cv_s, dv_n, dw_n, rt_1, rt_b, rt_20, rt_21, okb_0, okb_1, okb_b, nar_0, nar_1, nar_b, i_0, i_1, j_0, j_1, i_lit, j_lit, i_n, iI_add, iI_sub, iI_mul, iI_neg, jI_add, jI_sub, jI_mul, jI_neg, sh_1, an_1, xo_1, di_p, dj_p, i_64A, i_64, j_32, lq_ge, lq_lt, lq_le, lq_gt, lq_eq, i_lt, i_le, i_eq, j_eq, iI_A, jI_J, iI_b, iI_v, jI_v, ↓reduceIte, ite_true, ite_false, Int.reduceEq, Int.reduceLT, Int.reduceLE, Int.reduceAdd, Int.reduceSub, Int.reduceMul, Int.reduceNeg, not_true_eq_false, not_false_eq_true, q3, q5, q7]
  have q7 : 0 ≤ n := by omega
  obtain ⟨M1, p1, p2, p3, p4, p5⟩ := c_become hF hg hsh (M := M) (t := t) (n := n) t1 t2 n1 n2
  obtain ⟨M2, f1, f2⟩ := fin t n M1 (by omega) (by omega) p1 p2 p3 p4 p5
  refine ⟨1, M1, M2, ?_, ?_, f2⟩
  · refine s_RunSayer_sheet hF hg ?_
    refine ci_in (cs) ?_
    rw [if_pos (show iI 0 = 0 from rfl)]
    have hn : (iI s).toNatClampNeg = s.toNat := iI_n (by omega) (by omega)
    rw [hn]
    simp (config := { maxSteps := 1000000 }) (disch := (first | omega | decide | assumption)) only [ltm_s, ok_n, rd_i, rd_j, fd_i, fd_j, wr_i, wr_j, fw_i, fw_j, ci_s, cj_s, cv_s, dv_n, dw_n, rt_1, rt_b, rt_20, rt_21, okb_0, okb_1, okb_b, nar_0, nar_1, nar_b, i_0, i_1, j_0, j_1, i_lit, j_lit, i_n, iI_add, iI_sub, iI_mul, iI_neg, jI_add, jI_sub, jI_mul, jI_neg, sh_1, an_1, xo_1, di_p, dj_p, i_64A, i_64, j_32, lq_ge, lq_lt, lq_le, lq_gt, lq_eq, i_lt, i_le, i_eq, j_eq, iI_A, jI_J, iI_b, iI_v, jI_v, ↓reduceIte, ite_true, ite_false, Int.reduceEq, Int.reduceLT, Int.reduceLE, Int.reduceAdd, Int.reduceSub, Int.reduceMul, Int.reduceNeg, not_true_eq_false, not_false_eq_true, ct, q3, q5, q7, p1]
  · refine s_Model_sheet hF hg ?_
    refine ci_in (ms M1) ?_
    rw [if_neg (show ¬ iI 1 = 0 by decide)]
    refine ci_in (mt M1) ?_
    rw [if_neg (show ¬ iI 1 = 0 by decide)]
    simp (config := { maxSteps := 1000000 }) (disch := (first | omega | decide | assumption)) only [ltm_s, ok_n, rd_i, rd_j, fd_i, fd_j, wr_i, wr_j, fw_i, fw_j, ci_s, cj_s, cv_s, dv_n, dw_n, rt_1, rt_b, rt_20, rt_21, okb_0, okb_1, okb_b, nar_0, nar_1, nar_b, i_0, i_1, j_0, j_1, i_lit, j_lit, i_n, iI_add, iI_sub, iI_mul, iI_neg, jI_add, jI_sub, jI_mul, jI_neg, sh_1, an_1, xo_1, di_p, dj_p, i_64A, i_64, j_32, lq_ge, lq_lt, lq_le, lq_gt, lq_eq, i_lt, i_le, i_eq, j_eq, iI_A, jI_J, iI_b, iI_v, jI_v, ↓reduceIte, ite_true, ite_false, Int.reduceEq, Int.reduceLT, Int.reduceLE, Int.reduceAdd, Int.reduceSub, Int.reduceMul, Int.reduceNeg, not_true_eq_false, not_false_eq_true, A_Wn, A_WA, A_Wb, A_Ws, A_Wo, A_X, J_W, J_Xn, J_XJ, J_Xs, J_Xo, q3, q5, q7, f1]
theorem b_cell (hF : F = am_F T0 g) (hg : GG g) (hI : Inv M) {s i v : Int} (s1 : -2147483648 ≤ s) (s2 : s < 2147483648) (i1 : -2147483648 ≤ i) (i2 : i < 2147483648) (v1 : -2147483648 ≤ v) (v2 : v < 2147483648) :
    ∃ (r : Int) (M1 M2 : am_M), F 200 0 [.ref 0, .int (iI s), .int (iI i), .int (iI v)] [] M = some (some (.int (iI r)), M1) ∧ F 106 0 [.ref 219, .int (iI s), .int (iI i), .int (iI v)] [] M1 = some (some (.int (iI r)), M2) ∧ Inv M2 := by
  have hI' := hI
  obtain ⟨h1, h2, h3, h4, h5, h6, h7, h8, h9, h10, h11, h12, h13, h14, h15, h16, h17, h18, h19, hm, ht⟩ := hI
  have cs := c_noSheet hF hg (M := M) s1 s2
  have ms : ∀ N : am_M, F 53 0 [.int (iI s), .int 0, .int 3] [] N = some (some (.int (iI (bI (0 ≤ s ∧ s ≤ 3)))), N) := fun N => m_inn (l := 0) (h := 3) hF hg s1 s2 (by omega) (by omega) (by omega) (by omega)
  by_cases q1 : s < 0 ∨ 3 < s
  · rw [bI_t q1] at cs
    rw [bI_f (by omega)] at ms
    refine ⟨-2, M, M, ?_, ?_, hI'⟩
    · refine s_RunSayer_cell hF hg ?_
      simp (config := { maxSteps := 1000000 }) (disch := (first | omega | decide | assumption)) only [ltm_s, ok_n, rd_i, rd_j, fd_i, fd_j, wr_i, wr_j, fw_i, fw_j, ci_s, cj_s, cv_s, dv_n, dw_n, rt_1, rt_b, rt_20, rt_21, okb_0, okb_1, okb_b, nar_0, nar_1, nar_b, i_0, i_1, j_0, j_1, i_lit, j_lit, i_n, iI_add, iI_sub, iI_mul, iI_neg, jI_add, jI_sub, jI_mul, jI_neg, sh_1, an_1, xo_1, di_p, dj_p, i_64A, i_64, j_32, lq_ge, lq_lt, lq_le, lq_gt, lq_eq, i_lt, i_le, i_eq, j_eq, iI_A, jI_J, iI_b, iI_v, jI_v, ↓reduceIte, ite_true, ite_false, Int.reduceEq, Int.reduceLT, Int.reduceLE, Int.reduceAdd, Int.reduceSub, Int.reduceMul, Int.reduceNeg, not_true_eq_false, not_false_eq_true, cs]
    · refine s_Model_cell hF hg ?_
      refine ci_in (ms M) ?_
      rfl
  rw [bI_f q1] at cs
  rw [bI_t (by omega)] at ms
  have hsh := sh_ok hg (s := s) (by omega) (by omega)
  have sm := sh_mem (s := s) (by omega) (by omega)
  obtain ⟨b1, b2, b3, b4, b5⟩ := h18 s (by omega) (by omega)
  by_cases q2 : A M 259 s = -1
  · refine ⟨-11, M, M, ?_, ?_, hI'⟩
    · refine s_RunSayer_cell hF hg ?_
      refine ci_in (cs) ?_
      rw [if_pos (show iI 0 = 0 from rfl)]
      simp (config := { maxSteps := 1000000 }) (disch := (first | omega | decide | assumption)) only [ltm_s, ok_n, rd_i, rd_j, fd_i, fd_j, wr_i, wr_j, fw_i, fw_j, ci_s, cj_s, cv_s, dv_n, dw_n, rt_1, rt_b, rt_20, rt_21, okb_0, okb_1, okb_b, nar_0, nar_1, nar_b, i_0, i_1, j_0, j_1, i_lit, j_lit, i_n, iI_add, iI_sub, iI_mul, iI_neg, jI_add, jI_sub, jI_mul, jI_neg, sh_1, an_1, xo_1, di_p, dj_p, i_64A, i_64, j_32, lq_ge, lq_lt, lq_le, lq_gt, lq_eq, i_lt, i_le, i_eq, j_eq, iI_A, jI_J, iI_b, iI_v, jI_v, ↓reduceIte, ite_true, ite_false, Int.reduceEq, Int.reduceLT, Int.reduceLE, Int.reduceAdd, Int.reduceSub, Int.reduceMul, Int.reduceNeg, not_true_eq_false, not_false_eq_true, iI_n, rdn_i, rdn_j, wrn_i, wrn_j, b3, eq_true q2]
    · refine s_Model_cell hF hg ?_
      refine ci_in (ms M) ?_
      rw [if_neg (show ¬ iI 1 = 0 by decide)]
      simp (config := { maxSteps := 1000000 }) (disch := (first | omega | decide | assumption)) only [ltm_s, ok_n, rd_i, rd_j, fd_i, fd_j, wr_i, wr_j, fw_i, fw_j, ci_s, cj_s, cv_s, dv_n, dw_n, rt_1, rt_b, rt_20, rt_21, okb_0, okb_1, okb_b, nar_0, nar_1, nar_b, i_0, i_1, j_0, j_1, i_lit, j_lit, i_n, iI_add, iI_sub, iI_mul, iI_neg, jI_add, jI_sub, jI_mul, jI_neg, sh_1, an_1, xo_1, di_p, dj_p, i_64A, i_64, j_32, lq_ge, lq_lt, lq_le, lq_gt, lq_eq, i_lt, i_le, i_eq, j_eq, iI_A, jI_J, iI_b, iI_v, jI_v, ↓reduceIte, ite_true, ite_false, Int.reduceEq, Int.reduceLT, Int.reduceLE, Int.reduceAdd, Int.reduceSub, Int.reduceMul, Int.reduceNeg, not_true_eq_false, not_false_eq_true, eq_true q2]
  have co := c_outside hF hg (M := M) (v := i) (l := 0) (h := A M 260 s - 1) i1 i2 (by omega) (by omega) (by omega) (by omega)
  by_cases q3 : i < 0 ∨ A M 260 s - 1 < i
  · rw [bI_t q3] at co
    have q4 : ¬ (0 ≤ i ∧ i ≤ A M 260 s - 1) := by omega
    refine ⟨-12, M, M, ?_, ?_, hI'⟩
    · refine s_RunSayer_cell hF hg ?_
      refine ci_in (cs) ?_
      rw [if_pos (show iI 0 = 0 from rfl)]
      simp (config := { maxSteps := 1000000 }) (disch := (first | omega | decide | assumption)) only [ltm_s, ok_n, rd_i, rd_j, fd_i, fd_j, wr_i, wr_j, fw_i, fw_j, ci_s, cj_s, cv_s, dv_n, dw_n, rt_1, rt_b, rt_20, rt_21, okb_0, okb_1, okb_b, nar_0, nar_1, nar_b, i_0, i_1, j_0, j_1, i_lit, j_lit, i_n, iI_add, iI_sub, iI_mul, iI_neg, jI_add, jI_sub, jI_mul, jI_neg, sh_1, an_1, xo_1, di_p, dj_p, i_64A, i_64, j_32, lq_ge, lq_lt, lq_le, lq_gt, lq_eq, i_lt, i_le, i_eq, j_eq, iI_A, jI_J, iI_b, iI_v, jI_v, ↓reduceIte, ite_true, ite_false, Int.reduceEq, Int.reduceLT, Int.reduceLE, Int.reduceAdd, Int.reduceSub, Int.reduceMul, Int.reduceNeg, not_true_eq_false, not_false_eq_true, iI_n, rdn_i, rdn_j, wrn_i, wrn_j, b3, q2, b4, co]
    · refine s_Model_cell hF hg ?_
      refine ci_in (ms M) ?_
      rw [if_neg (show ¬ iI 1 = 0 by decide)]
      simp (config := { maxSteps := 1000000 }) (disch := (first | omega | decide | assumption)) only [ltm_s, ok_n, rd_i, rd_j, fd_i, fd_j, wr_i, wr_j, fw_i, fw_j, ci_s, cj_s, cv_s, dv_n, dw_n, rt_1, rt_b, rt_20, rt_21, okb_0, okb_1, okb_b, nar_0, nar_1, nar_b, i_0, i_1, j_0, j_1, i_lit, j_lit, i_n, iI_add, iI_sub, iI_mul, iI_neg, jI_add, jI_sub, jI_mul, jI_neg, sh_1, an_1, xo_1, di_p, dj_p, i_64A, i_64, j_32, lq_ge, lq_lt, lq_le, lq_gt, lq_eq, i_lt, i_le, i_eq, j_eq, iI_A, jI_J, iI_b, iI_v, jI_v, ↓reduceIte, ite_true, ite_false, Int.reduceEq, Int.reduceLT, Int.reduceLE, Int.reduceAdd, Int.reduceSub, Int.reduceMul, Int.reduceNeg, not_true_eq_false, not_false_eq_true, q2, m_inn hF hg, bI_f q4]
  rw [bI_f q3] at co
  have q4 : 0 ≤ i ∧ i ≤ A M 260 s - 1 := by omega
  have fin : ∀ x : Int, (-2147483648 ≤ x ∧ x < 2147483648) → (A M 259 s = 0 → (iI v).toInt8.toInt32 = iI x) → (A M 259 s = 1 → (iI v).toInt16.toInt32 = iI x) → (A M 259 s = 2 → iI v = iI x) → ∃ (r : Int) (M1 M2 : am_M), F 200 0 [.ref 0, .int (iI s), .int (iI i), .int (iI v)] [] M = some (some (.int (iI r)), M1) ∧ F 106 0 [.ref 219, .int (iI s), .int (iI i), .int (iI v)] [] M1 = some (some (.int (iI r)), M2) ∧ Inv M2 := by
    intro x hx e0 e1 e2
    obtain ⟨M1, w1⟩ : ∃ y : am_M, y = W_ M (210 + 2 * s.toNat + 1) i x := ⟨_, rfl⟩
    obtain ⟨M2, w2⟩ : ∃ y : am_M, y = W_ M1 261 (100 * s + i) x := ⟨_, rfl⟩
    have pt : F 75 0 [.ref (210 + 2 * s.toNat), .int (iI i), .int (iI v)] [] M = some (none, M1) := by
      rw [w1]
      refine s_Sheet_put hF hg hsh ?_
      have hc : A M 259 s = 0 ∨ A M 259 s = 1 ∨ A M 259 s = 2 := by omega
      rcases hc with h | h | h
      · rw [e0 h]
        simp (config := { maxSteps := 1000000 }) (disch := (first | omega | decide | assumption)) only [ltm_s, ok_n, rd_i, rd_j, fd_i, fd_j, wr_i, wr_j, fw_i, fw_j, ci_s, cj_s, cv_s, dv_n, dw_n, rt_1, rt_b, rt_20, rt_21, okb_0, okb_1, okb_b, nar_0, nar_1, nar_b, i_0, i_1, j_0, j_1, i_lit, j_lit, i_n, iI_add, iI_sub, iI_mul, iI_neg, jI_add, jI_sub, jI_mul, jI_neg, sh_1, an_1, xo_1, di_p, dj_p, i_64A, i_64, j_32, lq_ge, lq_lt, lq_le, lq_gt, lq_eq, i_lt, i_le, i_eq, j_eq, iI_A, jI_J, iI_b, iI_v, jI_v, ↓reduceIte, ite_true, ite_false, Int.reduceEq, Int.reduceLT, Int.reduceLE, Int.reduceAdd, Int.reduceSub, Int.reduceMul, Int.reduceNeg, not_true_eq_false, not_false_eq_true, b3, h]
      · rw [e1 h]
        simp (config := { maxSteps := 1000000 }) (disch := (first | omega | decide | assumption)) only [ltm_s, ok_n, rd_i, rd_j, fd_i, fd_j, wr_i, wr_j, fw_i, fw_j, ci_s, cj_s, cv_s, dv_n, dw_n, rt_1, rt_b, rt_20, rt_21, okb_0, okb_1, okb_b, nar_0, nar_1, nar_b, i_0, i_1, j_0, j_1, i_lit, j_lit, i_n, iI_add, iI_sub, iI_mul, iI_neg, jI_add, jI_sub, jI_mul, jI_neg, sh_1, an_1, xo_1, di_p, dj_p, i_64A, i_64, j_32, lq_ge, lq_lt, lq_le, lq_gt, lq_eq, i_lt, i_le, i_eq, j_eq, iI_A, jI_J, iI_b, iI_v, jI_v, ↓reduceIte, ite_true, ite_false, Int.reduceEq, Int.reduceLT, Int.reduceLE, Int.reduceAdd, Int.reduceSub, Int.reduceMul, Int.reduceNeg, not_true_eq_false, not_false_eq_true, b3, h]
      · rw [e2 h]
        simp (config := { maxSteps := 1000000 }) (disch := (first | omega | decide | assumption)) only [ltm_s, ok_n, rd_i, rd_j, fd_i, fd_j, wr_i, wr_j, fw_i, fw_j, ci_s, cj_s, cv_s, dv_n, dw_n, rt_1, rt_b, rt_20, rt_21, okb_0, okb_1, okb_b, nar_0, nar_1, nar_b, i_0, i_1, j_0, j_1, i_lit, j_lit, i_n, iI_add, iI_sub, iI_mul, iI_neg, jI_add, jI_sub, jI_mul, jI_neg, sh_1, an_1, xo_1, di_p, dj_p, i_64A, i_64, j_32, lq_ge, lq_lt, lq_le, lq_gt, lq_eq, i_lt, i_le, i_eq, j_eq, iI_A, jI_J, iI_b, iI_v, jI_v, ↓reduceIte, ite_true, ite_false, Int.reduceEq, Int.reduceLT, Int.reduceLE, Int.reduceAdd, Int.reduceSub, Int.reduceMul, Int.reduceNeg, not_true_eq_false, not_false_eq_true, b3, h]
    have g0 : ∀ z, A M1 259 z = A M 259 z := fun z => by rw [w1, A_Wn (by omega)]
    have g1 : ∀ z, A M1 260 z = A M 260 z := fun z => by rw [w1, A_Wn (by omega)]
    have mi := m_inn hF hg (M := M1) (v := i) (l := 0) (h := A M 260 s - 1) i1 i2 (by omega) (by omega) (by omega) (by omega)
    rw [bI_t q4] at mi
    have c : Ch [210, 211, 212, 213, 214, 215, 216, 217, 259, 260, 261] [] M M2 := by
      rw [w2, w1]
      exact (Ch.refl.wm (Or.inl (sm _ (by simp only [List.mem_cons, true_or, or_true])))).wm (Or.inl (by decide))
    refine ⟨1, M1, M2, ?_, ?_, sh_inv hI' c ?_⟩
    · refine s_RunSayer_cell hF hg ?_
      refine ci_in (cs) ?_
      rw [if_pos (show iI 0 = 0 from rfl)]
      simp (config := { maxSteps := 1000000 }) (disch := (first | omega | decide | assumption)) only [ltm_s, ok_n, rd_i, rd_j, fd_i, fd_j, wr_i, wr_j, fw_i, fw_j, ci_s, cj_s, cv_s, dv_n, dw_n, rt_1, rt_b, rt_20, rt_21, okb_0, okb_1, okb_b, nar_0, nar_1, nar_b, i_0, i_1, j_0, j_1, i_lit, j_lit, i_n, iI_add, iI_sub, iI_mul, iI_neg, jI_add, jI_sub, jI_mul, jI_neg, sh_1, an_1, xo_1, di_p, dj_p, i_64A, i_64, j_32, lq_ge, lq_lt, lq_le, lq_gt, lq_eq, i_lt, i_le, i_eq, j_eq, iI_A, jI_J, iI_b, iI_v, jI_v, ↓reduceIte, ite_true, ite_false, Int.reduceEq, Int.reduceLT, Int.reduceLE, Int.reduceAdd, Int.reduceSub, Int.reduceMul, Int.reduceNeg, not_true_eq_false, not_false_eq_true, iI_n, rdn_i, rdn_j, wrn_i, wrn_j, b3, q2, b4, co, pt]
    · rw [w2]
      refine s_Model_cell hF hg ?_
      refine ci_in (ms M1) ?_
      rw [if_neg (show ¬ iI 1 = 0 by decide)]
      have hc : A M 259 s = 0 ∨ A M 259 s = 1 ∨ A M 259 s = 2 := by omega
      rcases hc with h | h | h
      · rw [e0 h]
        simp (config := { maxSteps := 1000000 }) (disch := (first | omega | decide | assumption)) only [ltm_s, ok_n, rd_i, rd_j, fd_i, fd_j, wr_i, wr_j, fw_i, fw_j, ci_s, cj_s, cv_s, dv_n, dw_n, rt_1, rt_b, rt_20, rt_21, okb_0, okb_1, okb_b, nar_0, nar_1, nar_b, i_0, i_1, j_0, j_1, i_lit, j_lit, i_n, iI_add, iI_sub, iI_mul, iI_neg, jI_add, jI_sub, jI_mul, jI_neg, sh_1, an_1, xo_1, di_p, dj_p, i_64A, i_64, j_32, lq_ge, lq_lt, lq_le, lq_gt, lq_eq, i_lt, i_le, i_eq, j_eq, iI_A, jI_J, iI_b, iI_v, jI_v, ↓reduceIte, ite_true, ite_false, Int.reduceEq, Int.reduceLT, Int.reduceLE, Int.reduceAdd, Int.reduceSub, Int.reduceMul, Int.reduceNeg, not_true_eq_false, not_false_eq_true, g0, g1, h, mi]
      · rw [e1 h]
        simp (config := { maxSteps := 1000000 }) (disch := (first | omega | decide | assumption)) only [ltm_s, ok_n, rd_i, rd_j, fd_i, fd_j, wr_i, wr_j, fw_i, fw_j, ci_s, cj_s, cv_s, dv_n, dw_n, rt_1, rt_b, rt_20, rt_21, okb_0, okb_1, okb_b, nar_0, nar_1, nar_b, i_0, i_1, j_0, j_1, i_lit, j_lit, i_n, iI_add, iI_sub, iI_mul, iI_neg, jI_add, jI_sub, jI_mul, jI_neg, sh_1, an_1, xo_1, di_p, dj_p, i_64A, i_64, j_32, lq_ge, lq_lt, lq_le, lq_gt, lq_eq, i_lt, i_le, i_eq, j_eq, iI_A, jI_J, iI_b, iI_v, jI_v, ↓reduceIte, ite_true, ite_false, Int.reduceEq, Int.reduceLT, Int.reduceLE, Int.reduceAdd, Int.reduceSub, Int.reduceMul, Int.reduceNeg, not_true_eq_false, not_false_eq_true, g0, g1, h, mi]
      · rw [e2 h]
        simp (config := { maxSteps := 1000000 }) (disch := (first | omega | decide | assumption)) only [ltm_s, ok_n, rd_i, rd_j, fd_i, fd_j, wr_i, wr_j, fw_i, fw_j, ci_s, cj_s, cv_s, dv_n, dw_n, rt_1, rt_b, rt_20, rt_21, okb_0, okb_1, okb_b, nar_0, nar_1, nar_b, i_0, i_1, j_0, j_1, i_lit, j_lit, i_n, iI_add, iI_sub, iI_mul, iI_neg, jI_add, jI_sub, jI_mul, jI_neg, sh_1, an_1, xo_1, di_p, dj_p, i_64A, i_64, j_32, lq_ge, lq_lt, lq_le, lq_gt, lq_eq, i_lt, i_le, i_eq, j_eq, iI_A, jI_J, iI_b, iI_v, jI_v, ↓reduceIte, ite_true, ite_false, Int.reduceEq, Int.reduceLT, Int.reduceLE, Int.reduceAdd, Int.reduceSub, Int.reduceMul, Int.reduceNeg, not_true_eq_false, not_false_eq_true, g0, g1, h, mi]
    · have k0 : ∀ z, A M2 259 z = A M 259 z := fun z => by rw [w2, A_Wn (by decide), g0]
      have k1 : ∀ z, A M2 260 z = A M 260 z := fun z => by rw [w2, A_Wn (by decide), g1]
      refine I18_up h18 (s := s) (by omega) (by omega) ?_ (fun a a0 a1 a2 a3 z => by rw [w2, w1, A_Wn (by omega), A_Wn (by omega)]) (fun j _ _ => k0 j) (fun j _ _ => k1 j) (fun j j0 j1 => by rw [w2, A_Wo (by omega) j0 (by omega), w1, A_Wn (by omega)])
      refine ⟨by rw [k0]; exact b1, by rw [k1]; exact b2, by rw [k0, w2, w1, A_Wn (by omega), A_Wn (by omega)]; exact b3, by rw [k1, w2, w1, A_Wn (by omega), A_Wn (by omega)]; exact b4, fun j j0 j1 => ?_⟩
      by_cases q : j = i
      · rw [q, w2, A_Wn (by omega), w1, A_Ws hx.1 hx.2, A_Ws hx.1 hx.2]
      · rw [w2, A_Wn (by omega), w1, A_Wo (by omega) j0 q, A_Wo (by omega) (by omega) (by omega), A_Wn (by omega)]
        exact b5 j j0 j1
  by_cases h0 : A M 259 s = 0
  · exact fin (iI v).toInt8.toInt32.toInt ⟨Int32.le_toInt _, Int32.toInt_lt _⟩ (fun _ => (iI_of _).symm) (fun h => by omega) (fun h => by omega)
  · by_cases h1 : A M 259 s = 1
    · exact fin (iI v).toInt16.toInt32.toInt ⟨Int32.le_toInt _, Int32.toInt_lt _⟩ (fun h => by omega) (fun _ => (iI_of _).symm) (fun h => by omega)
    · exact fin v ⟨v1, v2⟩ (fun h => by omega) (fun h => by omega) (fun _ => rfl)
end Sh
