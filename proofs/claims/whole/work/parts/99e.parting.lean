/-! PARTING, asked of both -/
section Pg
variable {M0 M M' : am_M} {g : am_G} {F : am_FT}
theorem p2_10 {c : Int} (c0 : 0 ≤ c) (c1 : c ≤ 10) : p2 c ≤ 1024 := by
  have hc : c = 0 ∨ c = 1 ∨ c = 2 ∨ c = 3 ∨ c = 4 ∨ c = 5 ∨ c = 6 ∨ c = 7 ∨ c = 8 ∨ c = 9 ∨ c = 10 := by omega
  rcases hc with rfl | rfl | rfl | rfl | rfl | rfl | rfl | rfl | rfl | rfl | rfl <;> decide
theorem c_most (hF : F = am_F T0 g) (hg : GG g) (h1 : I1 M0) (h2 : I2 M0) (h3 : I3 M0) (h4 : I4 M0) (h6 : I6 M0) (h7 : I7 M0) (h8 : I8 M0) (h9 : I9 M0) (h14 : I14 M0) (h15 : I15 M0) {s a b hour : Int} (u0 : 0 ≤ hour) (u1 : hour < 24) (a0 : 0 ≤ a) (a1 : a < nD M0) (b0 : 0 ≤ b) (b1 : b < nD M0) (hx : ∃ q : Int, 0 ≤ q ∧ q < A M0 219 41 ∧ bt s q = 1) {N1 N2 : am_M} (hH : Hs M0 hour N1) (hA : Ag M0 N2) : ∃ (r : Int) (N1' N2' : am_M), F 255 0 [.ref 0, .int (iI s), .int (iI a), .int (iI b)] [] N1 = some (some (.int (iI r)), N1') ∧ F 267 0 [.ref 219, .int (iI s), .int (iI a), .int (iI b), .int (iI hour)] [] N2 = some (some (.int (iI r)), N2') ∧ Hs M0 hour N1' ∧ Ag M0 N2' ∧ Ke [32, 33, 34, 35, 36, 37, 38, 39, 40, 41, 70, 71, 75, 76, 80, 81, 85, 86] N1 N1' ∧ Km N2 N2' ∧ 1 ≤ r ∧ r ≤ 4 := by
  have hc := h15.1
  obtain ⟨r, N1', N2', p1, p2, p3, p4, p5, p6, p7, p8⟩ := ma_l hF hg h1 h2 h3 h4 h6 h7 h8 h9 h14 h15 (s := s) u0 u1 a0 a1 b0 b1 (A M0 219 41).toNat 0 0 N1 N2 (by omega) (by omega) (by omega) hH hA (fun q q0 q1 => by omega)
  obtain ⟨q, q0, q1, q2⟩ := hx
  refine ⟨r, N1', N2', ?_, ?_, p3, p4, p5, p6, p8 ⟨q, by omega, q1, q2⟩, p7.2⟩
  · refine s_RunSayer_mostAlike hF hg ?_
    exact p1
  · refine s_Model_mostAlike hF hg ?_
    exact p2
/-- the class stops when it can't be bettered -/
theorem c_stop (hF : F = am_F T0 g) (hg : GG g) (h4 : I4 M0) {s least best : Int} (l0 : 0 ≤ least) (l1 : least ≤ 1) {N1 : am_M} (hA : Ag M0 N1) : ∀ n k : Nat, (k : Int) + n = nD M0 → F 262 45 [.ref 0, .int (iI s), .int (iI least), .int (iI best), .int (iI k)] [] N1 = some (some (.int (iI best)), N1) := by
  have hd := h4.1
  have e14 : A N1 1 14 = nD M0 := by rw [agA hA (a := 1) rfl]; exact h4.2.1
  intro n
  induction n with
  | zero =>
    intro k hk
    have u : nD M0 ≤ (k : Int) := by omega
    refine s_RunSayer_parting_45 hF hg ?_
    simp (config := { maxSteps := 1000000 }) (disch := (first | omega | decide | assumption)) only [ltm_s, ok_n, rd_i, rd_j, fd_i, fd_j, wr_i, wr_j, fw_i, fw_j, ci_s, cj_s, cv_s, dv_n, dw_n, rt_1, rt_b, rt_20, rt_21, okb_0, okb_1, okb_b, nar_0, nar_1, nar_b, i_0, i_1, j_0, j_1, i_lit, j_lit, i_n, iI_add, iI_sub, iI_mul, iI_neg, jI_add, jI_sub, jI_mul, jI_neg, sh_1, an_1, xo_1, di_p, dj_p, i_64A, i_64, j_32, lq_ge, lq_lt, lq_le, lq_gt, lq_eq, i_lt, i_le, i_eq, j_eq, iI_A, jI_J, iI_b, iI_v, jI_v, ↓reduceIte, ite_true, ite_false, Int.reduceEq, Int.reduceLT, Int.reduceLE, Int.reduceAdd, Int.reduceSub, Int.reduceMul, Int.reduceNeg, not_true_eq_false, not_false_eq_true, e14, u]
  | succ n ih =>
    intro k hk
    have u : ¬ nD M0 ≤ (k : Int) := by omega
    have u2 : ¬ nD M0 ≤ 0 := by omega
    have hs : (k : Int) + 1 = ((k + 1 : Nat) : Int) := by omega
    have i1 := ih (k + 1) (by omega)
    refine s_RunSayer_parting_45 hF hg ?_
    simp (config := { maxSteps := 1000000 }) (disch := (first | omega | decide | assumption)) only [ltm_s, ok_n, rd_i, rd_j, fd_i, fd_j, wr_i, wr_j, fw_i, fw_j, ci_s, cj_s, cv_s, dv_n, dw_n, rt_1, rt_b, rt_20, rt_21, okb_0, okb_1, okb_b, nar_0, nar_1, nar_b, i_0, i_1, j_0, j_1, i_lit, j_lit, i_n, iI_add, iI_sub, iI_mul, iI_neg, jI_add, jI_sub, jI_mul, jI_neg, sh_1, an_1, xo_1, di_p, dj_p, i_64A, i_64, j_32, lq_ge, lq_lt, lq_le, lq_gt, lq_eq, i_lt, i_le, i_eq, j_eq, iI_A, jI_J, iI_b, iI_v, jI_v, ↓reduceIte, ite_true, ite_false, Int.reduceEq, Int.reduceLT, Int.reduceLE, Int.reduceAdd, Int.reduceSub, Int.reduceMul, Int.reduceNeg, not_true_eq_false, not_false_eq_true, e14, u]
    refine s_RunSayer_parting_60 hF hg ?_
    simp (config := { maxSteps := 1000000 }) (disch := (first | omega | decide | assumption)) only [ltm_s, ok_n, rd_i, rd_j, fd_i, fd_j, wr_i, wr_j, fw_i, fw_j, ci_s, cj_s, cv_s, dv_n, dw_n, rt_1, rt_b, rt_20, rt_21, okb_0, okb_1, okb_b, nar_0, nar_1, nar_b, i_0, i_1, j_0, j_1, i_lit, j_lit, i_n, iI_add, iI_sub, iI_mul, iI_neg, jI_add, jI_sub, jI_mul, jI_neg, sh_1, an_1, xo_1, di_p, dj_p, i_64A, i_64, j_32, lq_ge, lq_lt, lq_le, lq_gt, lq_eq, i_lt, i_le, i_eq, j_eq, iI_A, jI_J, iI_b, iI_v, jI_v, ↓reduceIte, ite_true, ite_false, Int.reduceEq, Int.reduceLT, Int.reduceLE, Int.reduceAdd, Int.reduceSub, Int.reduceMul, Int.reduceNeg, not_true_eq_false, not_false_eq_true, e14, u2, l1, hs, i1]
/-- the model goes on, and finds nothing better -/
theorem m_go_i (hF : F = am_F T0 g) (hg : GG g) (h1 : I1 M0) (h2 : I2 M0) (h3 : I3 M0) (h4 : I4 M0) (h6 : I6 M0) (h7 : I7 M0) (h8 : I8 M0) (h9 : I9 M0) (h14 : I14 M0) (h15 : I15 M0) {s hour least best : Int} (u0 : 0 ≤ hour) (u1 : hour < 24) (hx : ∃ q : Int, 0 ≤ q ∧ q < A M0 219 41 ∧ bt s q = 1) (l0 : 0 ≤ least) (l1 : least ≤ 1) {N1 : am_M} (hH : Hs M0 hour N1) {a : Int} (a0 : 0 ≤ a) (a1 : a < nD M0) (nxt : ∀ N2 : am_M, Ag M0 N2 → ∃ N2' : am_M, F 272 62 [.ref 219, .int (iI s), .int (iI hour), .int (iI least), .int (iI best), .int (iI (a + 1))] [] N2 = some (some (.int (iI best)), N2') ∧ Ag M0 N2' ∧ Km N2 N2') : ∀ (n k : Nat) (N2 : am_M), (k : Int) + n = nD M0 → Ag M0 N2 → ∃ N2' : am_M, F 272 74 [.ref 219, .int (iI s), .int (iI hour), .int (iI least), .int (iI best), .int (iI a), .int (iI k)] [] N2 = some (some (.int (iI best)), N2') ∧ Ag M0 N2' ∧ Km N2 N2' := by
  have hd := h4.1
  intro n
  induction n with
  | zero =>
    intro k N2 hk hA
    have e10 : A N2 219 10 = nD M0 := ag hA rfl
    have u : nD M0 ≤ (k : Int) := by omega
    obtain ⟨N2', q1, q2, q3⟩ := nxt N2 hA
    refine ⟨N2', ?_, q2, q3⟩
    refine s_Model_parting_74 hF hg ?_
    simp (config := { maxSteps := 1000000 }) (disch := (first | omega | decide | assumption)) only [ltm_s, ok_n, rd_i, rd_j, fd_i, fd_j, wr_i, wr_j, fw_i, fw_j, ci_s, cj_s, cv_s, dv_n, dw_n, rt_1, rt_b, rt_20, rt_21, okb_0, okb_1, okb_b, nar_0, nar_1, nar_b, i_0, i_1, j_0, j_1, i_lit, j_lit, i_n, iI_add, iI_sub, iI_mul, iI_neg, jI_add, jI_sub, jI_mul, jI_neg, sh_1, an_1, xo_1, di_p, dj_p, i_64A, i_64, j_32, lq_ge, lq_lt, lq_le, lq_gt, lq_eq, i_lt, i_le, i_eq, j_eq, iI_A, jI_J, iI_b, iI_v, jI_v, ↓reduceIte, ite_true, ite_false, Int.reduceEq, Int.reduceLT, Int.reduceLE, Int.reduceAdd, Int.reduceSub, Int.reduceMul, Int.reduceNeg, not_true_eq_false, not_false_eq_true, e10, u, q1]
  | succ n ih =>
    intro k N2 hk hA
    have e10 : A N2 219 10 = nD M0 := ag hA rfl
    have u : ¬ nD M0 ≤ (k : Int) := by omega
    have hs : (k : Int) + 1 = ((k + 1 : Nat) : Int) := by omega
    by_cases e : a = k
    · obtain ⟨N2', q1, q2, q3⟩ := ih (k + 1) N2 (by omega) hA
      refine ⟨N2', ?_, q2, q3⟩
      refine s_Model_parting_74 hF hg ?_
      have l9 : least ≤ 9 := by omega
      simp (config := { maxSteps := 1000000 }) (disch := (first | omega | decide | assumption)) only [ltm_s, ok_n, rd_i, rd_j, fd_i, fd_j, wr_i, wr_j, fw_i, fw_j, ci_s, cj_s, cv_s, dv_n, dw_n, rt_1, rt_b, rt_20, rt_21, okb_0, okb_1, okb_b, nar_0, nar_1, nar_b, i_0, i_1, j_0, j_1, i_lit, j_lit, i_n, iI_add, iI_sub, iI_mul, iI_neg, jI_add, jI_sub, jI_mul, jI_neg, sh_1, an_1, xo_1, di_p, dj_p, i_64A, i_64, j_32, lq_ge, lq_lt, lq_le, lq_gt, lq_eq, i_lt, i_le, i_eq, j_eq, iI_A, jI_J, iI_b, iI_v, jI_v, ↓reduceIte, ite_true, ite_false, Int.reduceEq, Int.reduceLT, Int.reduceLE, Int.reduceAdd, Int.reduceSub, Int.reduceMul, Int.reduceNeg, not_true_eq_false, not_false_eq_true, e10, u, eq_true e, l9, hs, q1]
    · obtain ⟨r, -, N3, -, w2, -, w4, -, w6, w7, w8⟩ := c_most hF hg h1 h2 h3 h4 h6 h7 h8 h9 h14 h15 (s := s) (a := a) (b := k) u0 u1 a0 a1 (by omega) (by omega) hx hH hA
      obtain ⟨N2', q1, q2, q3⟩ := ih (k + 1) N3 (by omega) w4
      refine ⟨N2', ?_, q2, w6.trans q3⟩
      refine s_Model_parting_74 hF hg ?_
      have lr : least ≤ r := by omega
      simp (config := { maxSteps := 1000000 }) (disch := (first | omega | decide | assumption)) only [ltm_s, ok_n, rd_i, rd_j, fd_i, fd_j, wr_i, wr_j, fw_i, fw_j, ci_s, cj_s, cv_s, dv_n, dw_n, rt_1, rt_b, rt_20, rt_21, okb_0, okb_1, okb_b, nar_0, nar_1, nar_b, i_0, i_1, j_0, j_1, i_lit, j_lit, i_n, iI_add, iI_sub, iI_mul, iI_neg, jI_add, jI_sub, jI_mul, jI_neg, sh_1, an_1, xo_1, di_p, dj_p, i_64A, i_64, j_32, lq_ge, lq_lt, lq_le, lq_gt, lq_eq, i_lt, i_le, i_eq, j_eq, iI_A, jI_J, iI_b, iI_v, jI_v, ↓reduceIte, ite_true, ite_false, Int.reduceEq, Int.reduceLT, Int.reduceLE, Int.reduceAdd, Int.reduceSub, Int.reduceMul, Int.reduceNeg, not_true_eq_false, not_false_eq_true, e10, u, e, w2, lr, hs, q1]
theorem m_go (hF : F = am_F T0 g) (hg : GG g) (h1 : I1 M0) (h2 : I2 M0) (h3 : I3 M0) (h4 : I4 M0) (h6 : I6 M0) (h7 : I7 M0) (h8 : I8 M0) (h9 : I9 M0) (h14 : I14 M0) (h15 : I15 M0) {s hour least best : Int} (u0 : 0 ≤ hour) (u1 : hour < 24) (hx : ∃ q : Int, 0 ≤ q ∧ q < A M0 219 41 ∧ bt s q = 1) (l0 : 0 ≤ least) (l1 : least ≤ 1) {N1 : am_M} (hH : Hs M0 hour N1) : ∀ (n k : Nat) (N2 : am_M), (k : Int) + n = nD M0 → Ag M0 N2 → ∃ N2' : am_M, F 272 62 [.ref 219, .int (iI s), .int (iI hour), .int (iI least), .int (iI best), .int (iI k)] [] N2 = some (some (.int (iI best)), N2') ∧ Ag M0 N2' ∧ Km N2 N2' := by
  have hd := h4.1
  intro n
  induction n with
  | zero =>
    intro k N2 hk hA
    have e10 : A N2 219 10 = nD M0 := ag hA rfl
    have u : nD M0 ≤ (k : Int) := by omega
    refine ⟨N2, ?_, hA, Km.refl _⟩
    refine s_Model_parting_62 hF hg ?_
    simp (config := { maxSteps := 1000000 }) (disch := (first | omega | decide | assumption)) only [ltm_s, ok_n, rd_i, rd_j, fd_i, fd_j, wr_i, wr_j, fw_i, fw_j, ci_s, cj_s, cv_s, dv_n, dw_n, rt_1, rt_b, rt_20, rt_21, okb_0, okb_1, okb_b, nar_0, nar_1, nar_b, i_0, i_1, j_0, j_1, i_lit, j_lit, i_n, iI_add, iI_sub, iI_mul, iI_neg, jI_add, jI_sub, jI_mul, jI_neg, sh_1, an_1, xo_1, di_p, dj_p, i_64A, i_64, j_32, lq_ge, lq_lt, lq_le, lq_gt, lq_eq, i_lt, i_le, i_eq, j_eq, iI_A, jI_J, iI_b, iI_v, jI_v, ↓reduceIte, ite_true, ite_false, Int.reduceEq, Int.reduceLT, Int.reduceLE, Int.reduceAdd, Int.reduceSub, Int.reduceMul, Int.reduceNeg, not_true_eq_false, not_false_eq_true, e10, u]
  | succ n ih =>
    intro k N2 hk hA
    have e10 : A N2 219 10 = nD M0 := ag hA rfl
    have u : ¬ nD M0 ≤ (k : Int) := by omega
    have hs : (k : Int) + 1 = ((k + 1 : Nat) : Int) := by omega
    obtain ⟨N2', q1, q2, q3⟩ := m_go_i hF hg h1 h2 h3 h4 h6 h7 h8 h9 h14 h15 (s := s) (least := least) (best := best) u0 u1 hx l0 l1 hH (a := k) (by omega) (by omega) (fun N hN => by rw [hs]; exact ih (k + 1) N (by omega) hN) (nD M0).toNat 0 N2 (by omega) hA
    refine ⟨N2', ?_, q2, q3⟩
    refine s_Model_parting_62 hF hg ?_
    simp (config := { maxSteps := 1000000 }) (disch := (first | omega | decide | assumption)) only [ltm_s, ok_n, rd_i, rd_j, fd_i, fd_j, wr_i, wr_j, fw_i, fw_j, ci_s, cj_s, cv_s, dv_n, dw_n, rt_1, rt_b, rt_20, rt_21, okb_0, okb_1, okb_b, nar_0, nar_1, nar_b, i_0, i_1, j_0, j_1, i_lit, j_lit, i_n, iI_add, iI_sub, iI_mul, iI_neg, jI_add, jI_sub, jI_mul, jI_neg, sh_1, an_1, xo_1, di_p, dj_p, i_64A, i_64, j_32, lq_ge, lq_lt, lq_le, lq_gt, lq_eq, i_lt, i_le, i_eq, j_eq, iI_A, jI_J, iI_b, iI_v, jI_v, ↓reduceIte, ite_true, ite_false, Int.reduceEq, Int.reduceLT, Int.reduceLE, Int.reduceAdd, Int.reduceSub, Int.reduceMul, Int.reduceNeg, not_true_eq_false, not_false_eq_true, e10, u]
    exact q1
/-- what both come to -/
def Pres (F : am_FT) (M0 : am_M) (hour : Int) (N1 N2 : am_M) (x y : Option am_R) : Prop := ∃ (r : Int) (N1' N2' : am_M), x = some (some (.int (iI r)), N1') ∧ y = some (some (.int (iI r)), N2') ∧ Hs M0 hour N1' ∧ Ag M0 N2' ∧ Ke [32, 33, 34, 35, 36, 37, 38, 39, 40, 41, 70, 71, 75, 76, 80, 81, 85, 86] N1 N1' ∧ Km N2 N2'
theorem pt_i (hF : F = am_F T0 g) (hg : GG g) (h1 : I1 M0) (h2 : I2 M0) (h3 : I3 M0) (h4 : I4 M0) (h6 : I6 M0) (h7 : I7 M0) (h8 : I8 M0) (h9 : I9 M0) (h14 : I14 M0) (h15 : I15 M0) {s hour : Int} (u0 : 0 ≤ hour) (u1 : hour < 24) (hx : ∃ q : Int, 0 ≤ q ∧ q < A M0 219 41 ∧ bt s q = 1) {a : Int} (a0 : 0 ≤ a) (a1 : a < nD M0)
    (nxt : ∀ (least best : Int) (N1 N2 : am_M), 0 ≤ least → least ≤ 4 → Hs M0 hour N1 → Ag M0 N2 → Pres F M0 hour N1 N2 (F 262 45 [.ref 0, .int (iI s), .int (iI least), .int (iI best), .int (iI (a + 1))] [] N1) (F 272 62 [.ref 219, .int (iI s), .int (iI hour), .int (iI least), .int (iI best), .int (iI (a + 1))] [] N2)) : ∀ (n k : Nat) (least best : Int) (N1 N2 : am_M), (k : Int) + n = nD M0 → 0 ≤ least → least ≤ 4 → Hs M0 hour N1 → Ag M0 N2 → Pres F M0 hour N1 N2 (F 262 60 [.ref 0, .int (iI s), .int (iI least), .int (iI best), .int (iI a), .int (iI k)] [] N1) (F 272 74 [.ref 219, .int (iI s), .int (iI hour), .int (iI least), .int (iI best), .int (iI a), .int (iI k)] [] N2) := by
  have hd := h4.1
  have e14 : ∀ N1, Hs M0 hour N1 → A N1 1 14 = nD M0 := fun N1 h => by rw [agA h.1 (a := 1) rfl]; exact h4.2.1
  intro n
  induction n with
  | zero =>
    intro k least best N1 N2 hk l0 l4 hH hA
    have u : nD M0 ≤ (k : Int) := by omega
    have e10 : A N2 219 10 = nD M0 := ag hA rfl
    obtain ⟨r, N1', N2', q1, q2, q3⟩ := nxt least best N1 N2 l0 l4 hH hA
    refine ⟨r, N1', N2', ?_, ?_, q3⟩
    · refine s_RunSayer_parting_60 hF hg ?_
      simp (config := { maxSteps := 1000000 }) (disch := (first | omega | decide | assumption)) only [ltm_s, ok_n, rd_i, rd_j, fd_i, fd_j, wr_i, wr_j, fw_i, fw_j, ci_s, cj_s, cv_s, dv_n, dw_n, rt_1, rt_b, rt_20, rt_21, okb_0, okb_1, okb_b, nar_0, nar_1, nar_b, i_0, i_1, j_0, j_1, i_lit, j_lit, i_n, iI_add, iI_sub, iI_mul, iI_neg, jI_add, jI_sub, jI_mul, jI_neg, sh_1, an_1, xo_1, di_p, dj_p, i_64A, i_64, j_32, lq_ge, lq_lt, lq_le, lq_gt, lq_eq, i_lt, i_le, i_eq, j_eq, iI_A, jI_J, iI_b, iI_v, jI_v, ↓reduceIte, ite_true, ite_false, Int.reduceEq, Int.reduceLT, Int.reduceLE, Int.reduceAdd, Int.reduceSub, Int.reduceMul, Int.reduceNeg, not_true_eq_false, not_false_eq_true, e14 N1 hH, u, q1]
    · refine s_Model_parting_74 hF hg ?_
      simp (config := { maxSteps := 1000000 }) (disch := (first | omega | decide | assumption)) only [ltm_s, ok_n, rd_i, rd_j, fd_i, fd_j, wr_i, wr_j, fw_i, fw_j, ci_s, cj_s, cv_s, dv_n, dw_n, rt_1, rt_b, rt_20, rt_21, okb_0, okb_1, okb_b, nar_0, nar_1, nar_b, i_0, i_1, j_0, j_1, i_lit, j_lit, i_n, iI_add, iI_sub, iI_mul, iI_neg, jI_add, jI_sub, jI_mul, jI_neg, sh_1, an_1, xo_1, di_p, dj_p, i_64A, i_64, j_32, lq_ge, lq_lt, lq_le, lq_gt, lq_eq, i_lt, i_le, i_eq, j_eq, iI_A, jI_J, iI_b, iI_v, jI_v, ↓reduceIte, ite_true, ite_false, Int.reduceEq, Int.reduceLT, Int.reduceLE, Int.reduceAdd, Int.reduceSub, Int.reduceMul, Int.reduceNeg, not_true_eq_false, not_false_eq_true, e10, u, q2]
  | succ n ih =>
    intro k least best N1 N2 hk l0 l4 hH hA
    have u : ¬ nD M0 ≤ (k : Int) := by omega
    have e10 : A N2 219 10 = nD M0 := ag hA rfl
    have hs : (k : Int) + 1 = ((k + 1 : Nat) : Int) := by omega
    by_cases l1 : least ≤ 1
    · have c := c_stop hF hg h4 (s := s) (best := best) l0 l1 hH.1 (nD M0 - (a + 1)).toNat (a + 1).toNat (by omega)
      rw [Int.toNat_of_nonneg (by omega)] at c
      obtain ⟨N2', q1, q2, q3⟩ := m_go_i hF hg h1 h2 h3 h4 h6 h7 h8 h9 h14 h15 (s := s) (least := least) (best := best) u0 u1 hx l0 l1 hH a0 a1 (fun N hN => by
        have m := m_go hF hg h1 h2 h3 h4 h6 h7 h8 h9 h14 h15 (s := s) (least := least) (best := best) u0 u1 hx l0 l1 hH (nD M0 - (a + 1)).toNat (a + 1).toNat N (by omega) hN
        rw [Int.toNat_of_nonneg (by omega)] at m
        exact m) (n + 1) k N2 (by omega) hA
      refine ⟨best, N1, N2', ?_, q1, hH, q2, Ke.refl, q3⟩
      refine s_RunSayer_parting_60 hF hg ?_
      simp (config := { maxSteps := 1000000 }) (disch := (first | omega | decide | assumption)) only [ltm_s, ok_n, rd_i, rd_j, fd_i, fd_j, wr_i, wr_j, fw_i, fw_j, ci_s, cj_s, cv_s, dv_n, dw_n, rt_1, rt_b, rt_20, rt_21, okb_0, okb_1, okb_b, nar_0, nar_1, nar_b, i_0, i_1, j_0, j_1, i_lit, j_lit, i_n, iI_add, iI_sub, iI_mul, iI_neg, jI_add, jI_sub, jI_mul, jI_neg, sh_1, an_1, xo_1, di_p, dj_p, i_64A, i_64, j_32, lq_ge, lq_lt, lq_le, lq_gt, lq_eq, i_lt, i_le, i_eq, j_eq, iI_A, jI_J, iI_b, iI_v, jI_v, ↓reduceIte, ite_true, ite_false, Int.reduceEq, Int.reduceLT, Int.reduceLE, Int.reduceAdd, Int.reduceSub, Int.reduceMul, Int.reduceNeg, not_true_eq_false, not_false_eq_true, e14 N1 hH, u, l1, c]
    · by_cases e : a = k
      · obtain ⟨r, N1', N2', q1, q2, q3⟩ := ih (k + 1) least best N1 N2 (by omega) l0 l4 hH hA
        have l9 : least ≤ 9 := by omega
        have ll : least ≤ least := Int.le_refl _
        refine ⟨r, N1', N2', ?_, ?_, q3⟩
        · refine s_RunSayer_parting_60 hF hg ?_
          simp (config := { maxSteps := 1000000 }) (disch := (first | omega | decide | assumption)) only [ltm_s, ok_n, rd_i, rd_j, fd_i, fd_j, wr_i, wr_j, fw_i, fw_j, ci_s, cj_s, cv_s, dv_n, dw_n, rt_1, rt_b, rt_20, rt_21, okb_0, okb_1, okb_b, nar_0, nar_1, nar_b, i_0, i_1, j_0, j_1, i_lit, j_lit, i_n, iI_add, iI_sub, iI_mul, iI_neg, jI_add, jI_sub, jI_mul, jI_neg, sh_1, an_1, xo_1, di_p, dj_p, i_64A, i_64, j_32, lq_ge, lq_lt, lq_le, lq_gt, lq_eq, i_lt, i_le, i_eq, j_eq, iI_A, jI_J, iI_b, iI_v, jI_v, ↓reduceIte, ite_true, ite_false, Int.reduceEq, Int.reduceLT, Int.reduceLE, Int.reduceAdd, Int.reduceSub, Int.reduceMul, Int.reduceNeg, not_true_eq_false, not_false_eq_true, e14 N1 hH, u, l1, eq_true e, ll, hs, q1]
        · refine s_Model_parting_74 hF hg ?_
          simp (config := { maxSteps := 1000000 }) (disch := (first | omega | decide | assumption)) only [ltm_s, ok_n, rd_i, rd_j, fd_i, fd_j, wr_i, wr_j, fw_i, fw_j, ci_s, cj_s, cv_s, dv_n, dw_n, rt_1, rt_b, rt_20, rt_21, okb_0, okb_1, okb_b, nar_0, nar_1, nar_b, i_0, i_1, j_0, j_1, i_lit, j_lit, i_n, iI_add, iI_sub, iI_mul, iI_neg, jI_add, jI_sub, jI_mul, jI_neg, sh_1, an_1, xo_1, di_p, dj_p, i_64A, i_64, j_32, lq_ge, lq_lt, lq_le, lq_gt, lq_eq, i_lt, i_le, i_eq, j_eq, iI_A, jI_J, iI_b, iI_v, jI_v, ↓reduceIte, ite_true, ite_false, Int.reduceEq, Int.reduceLT, Int.reduceLE, Int.reduceAdd, Int.reduceSub, Int.reduceMul, Int.reduceNeg, not_true_eq_false, not_false_eq_true, e10, u, eq_true e, l9, hs, q2]
      · obtain ⟨r, N3, N4, w1, w2, w3, w4, w5, w6, w7, w8⟩ := c_most hF hg h1 h2 h3 h4 h6 h7 h8 h9 h14 h15 (s := s) (a := a) (b := k) u0 u1 a0 a1 (by omega) (by omega) hx hH hA
        by_cases lr : least ≤ r
        · obtain ⟨x, N1', N2', q1, q2, q3, q4, q5, q6⟩ := ih (k + 1) least best N3 N4 (by omega) l0 l4 w3 w4
          refine ⟨x, N1', N2', ?_, ?_, q3, q4, w5.trans q5, w6.trans q6⟩
          · refine s_RunSayer_parting_60 hF hg ?_
            simp (config := { maxSteps := 1000000 }) (disch := (first | omega | decide | assumption)) only [ltm_s, ok_n, rd_i, rd_j, fd_i, fd_j, wr_i, wr_j, fw_i, fw_j, ci_s, cj_s, cv_s, dv_n, dw_n, rt_1, rt_b, rt_20, rt_21, okb_0, okb_1, okb_b, nar_0, nar_1, nar_b, i_0, i_1, j_0, j_1, i_lit, j_lit, i_n, iI_add, iI_sub, iI_mul, iI_neg, jI_add, jI_sub, jI_mul, jI_neg, sh_1, an_1, xo_1, di_p, dj_p, i_64A, i_64, j_32, lq_ge, lq_lt, lq_le, lq_gt, lq_eq, i_lt, i_le, i_eq, j_eq, iI_A, jI_J, iI_b, iI_v, jI_v, ↓reduceIte, ite_true, ite_false, Int.reduceEq, Int.reduceLT, Int.reduceLE, Int.reduceAdd, Int.reduceSub, Int.reduceMul, Int.reduceNeg, not_true_eq_false, not_false_eq_true, e14 N1 hH, u, l1, e, w1, lr, hs, q1]
          · refine s_Model_parting_74 hF hg ?_
            simp (config := { maxSteps := 1000000 }) (disch := (first | omega | decide | assumption)) only [ltm_s, ok_n, rd_i, rd_j, fd_i, fd_j, wr_i, wr_j, fw_i, fw_j, ci_s, cj_s, cv_s, dv_n, dw_n, rt_1, rt_b, rt_20, rt_21, okb_0, okb_1, okb_b, nar_0, nar_1, nar_b, i_0, i_1, j_0, j_1, i_lit, j_lit, i_n, iI_add, iI_sub, iI_mul, iI_neg, jI_add, jI_sub, jI_mul, jI_neg, sh_1, an_1, xo_1, di_p, dj_p, i_64A, i_64, j_32, lq_ge, lq_lt, lq_le, lq_gt, lq_eq, i_lt, i_le, i_eq, j_eq, iI_A, jI_J, iI_b, iI_v, jI_v, ↓reduceIte, ite_true, ite_false, Int.reduceEq, Int.reduceLT, Int.reduceLE, Int.reduceAdd, Int.reduceSub, Int.reduceMul, Int.reduceNeg, not_true_eq_false, not_false_eq_true, e10, u, e, w2, lr, hs, q2]
        · obtain ⟨x, N1', N2', q1, q2, q3, q4, q5, q6⟩ := ih (k + 1) r (10 * a + k) N3 N4 (by omega) (by omega) w8 w3 w4
          refine ⟨x, N1', N2', ?_, ?_, q3, q4, w5.trans q5, w6.trans q6⟩
          · refine s_RunSayer_parting_60 hF hg ?_
            simp (config := { maxSteps := 1000000 }) (disch := (first | omega | decide | assumption)) only [ltm_s, ok_n, rd_i, rd_j, fd_i, fd_j, wr_i, wr_j, fw_i, fw_j, ci_s, cj_s, cv_s, dv_n, dw_n, rt_1, rt_b, rt_20, rt_21, okb_0, okb_1, okb_b, nar_0, nar_1, nar_b, i_0, i_1, j_0, j_1, i_lit, j_lit, i_n, iI_add, iI_sub, iI_mul, iI_neg, jI_add, jI_sub, jI_mul, jI_neg, sh_1, an_1, xo_1, di_p, dj_p, i_64A, i_64, j_32, lq_ge, lq_lt, lq_le, lq_gt, lq_eq, i_lt, i_le, i_eq, j_eq, iI_A, jI_J, iI_b, iI_v, jI_v, ↓reduceIte, ite_true, ite_false, Int.reduceEq, Int.reduceLT, Int.reduceLE, Int.reduceAdd, Int.reduceSub, Int.reduceMul, Int.reduceNeg, not_true_eq_false, not_false_eq_true, e14 N1 hH, u, l1, e, w1, lr, hs, q1]
          · refine s_Model_parting_74 hF hg ?_
            simp (config := { maxSteps := 1000000 }) (disch := (first | omega | decide | assumption)) only [ltm_s, ok_n, rd_i, rd_j, fd_i, fd_j, wr_i, wr_j, fw_i, fw_j, ci_s, cj_s, cv_s, dv_n, dw_n, rt_1, rt_b, rt_20, rt_21, okb_0, okb_1, okb_b, nar_0, nar_1, nar_b, i_0, i_1, j_0, j_1, i_lit, j_lit, i_n, iI_add, iI_sub, iI_mul, iI_neg, jI_add, jI_sub, jI_mul, jI_neg, sh_1, an_1, xo_1, di_p, dj_p, i_64A, i_64, j_32, lq_ge, lq_lt, lq_le, lq_gt, lq_eq, i_lt, i_le, i_eq, j_eq, iI_A, jI_J, iI_b, iI_v, jI_v, ↓reduceIte, ite_true, ite_false, Int.reduceEq, Int.reduceLT, Int.reduceLE, Int.reduceAdd, Int.reduceSub, Int.reduceMul, Int.reduceNeg, not_true_eq_false, not_false_eq_true, e10, u, e, w2, lr, hs, q2]
theorem pt_o (hF : F = am_F T0 g) (hg : GG g) (h1 : I1 M0) (h2 : I2 M0) (h3 : I3 M0) (h4 : I4 M0) (h6 : I6 M0) (h7 : I7 M0) (h8 : I8 M0) (h9 : I9 M0) (h14 : I14 M0) (h15 : I15 M0) {s hour : Int} (u0 : 0 ≤ hour) (u1 : hour < 24) (hx : ∃ q : Int, 0 ≤ q ∧ q < A M0 219 41 ∧ bt s q = 1) : ∀ (n k : Nat) (least best : Int) (N1 N2 : am_M), (k : Int) + n = nD M0 → 0 ≤ least → least ≤ 4 → Hs M0 hour N1 → Ag M0 N2 → Pres F M0 hour N1 N2 (F 262 45 [.ref 0, .int (iI s), .int (iI least), .int (iI best), .int (iI k)] [] N1) (F 272 62 [.ref 219, .int (iI s), .int (iI hour), .int (iI least), .int (iI best), .int (iI k)] [] N2) := by
  have hd := h4.1
  have e14 : ∀ N1, Hs M0 hour N1 → A N1 1 14 = nD M0 := fun N1 h => by rw [agA h.1 (a := 1) rfl]; exact h4.2.1
  intro n
  induction n with
  | zero =>
    intro k least best N1 N2 hk l0 l4 hH hA
    have u : nD M0 ≤ (k : Int) := by omega
    have e10 : A N2 219 10 = nD M0 := ag hA rfl
    refine ⟨best, N1, N2, ?_, ?_, hH, hA, Ke.refl, Km.refl _⟩
    · refine s_RunSayer_parting_45 hF hg ?_
      simp (config := { maxSteps := 1000000 }) (disch := (first | omega | decide | assumption)) only [ltm_s, ok_n, rd_i, rd_j, fd_i, fd_j, wr_i, wr_j, fw_i, fw_j, ci_s, cj_s, cv_s, dv_n, dw_n, rt_1, rt_b, rt_20, rt_21, okb_0, okb_1, okb_b, nar_0, nar_1, nar_b, i_0, i_1, j_0, j_1, i_lit, j_lit, i_n, iI_add, iI_sub, iI_mul, iI_neg, jI_add, jI_sub, jI_mul, jI_neg, sh_1, an_1, xo_1, di_p, dj_p, i_64A, i_64, j_32, lq_ge, lq_lt, lq_le, lq_gt, lq_eq, i_lt, i_le, i_eq, j_eq, iI_A, jI_J, iI_b, iI_v, jI_v, ↓reduceIte, ite_true, ite_false, Int.reduceEq, Int.reduceLT, Int.reduceLE, Int.reduceAdd, Int.reduceSub, Int.reduceMul, Int.reduceNeg, not_true_eq_false, not_false_eq_true, e14 N1 hH, u]
    · refine s_Model_parting_62 hF hg ?_
      simp (config := { maxSteps := 1000000 }) (disch := (first | omega | decide | assumption)) only [ltm_s, ok_n, rd_i, rd_j, fd_i, fd_j, wr_i, wr_j, fw_i, fw_j, ci_s, cj_s, cv_s, dv_n, dw_n, rt_1, rt_b, rt_20, rt_21, okb_0, okb_1, okb_b, nar_0, nar_1, nar_b, i_0, i_1, j_0, j_1, i_lit, j_lit, i_n, iI_add, iI_sub, iI_mul, iI_neg, jI_add, jI_sub, jI_mul, jI_neg, sh_1, an_1, xo_1, di_p, dj_p, i_64A, i_64, j_32, lq_ge, lq_lt, lq_le, lq_gt, lq_eq, i_lt, i_le, i_eq, j_eq, iI_A, jI_J, iI_b, iI_v, jI_v, ↓reduceIte, ite_true, ite_false, Int.reduceEq, Int.reduceLT, Int.reduceLE, Int.reduceAdd, Int.reduceSub, Int.reduceMul, Int.reduceNeg, not_true_eq_false, not_false_eq_true, e10, u]
  | succ n ih =>
    intro k least best N1 N2 hk l0 l4 hH hA
    have u : ¬ nD M0 ≤ (k : Int) := by omega
    have e10 : A N2 219 10 = nD M0 := ag hA rfl
    have hs : (k : Int) + 1 = ((k + 1 : Nat) : Int) := by omega
    obtain ⟨r, N1', N2', q1, q2, q3⟩ := pt_i hF hg h1 h2 h3 h4 h6 h7 h8 h9 h14 h15 (s := s) u0 u1 hx (a := k) (by omega) (by omega) (fun l b X Y x0 x4 hX hY => by rw [hs]; exact ih (k + 1) l b X Y (by omega) x0 x4 hX hY) (nD M0).toNat 0 least best N1 N2 (by omega) l0 l4 hH hA
    refine ⟨r, N1', N2', ?_, ?_, q3⟩
    · refine s_RunSayer_parting_45 hF hg ?_
      simp (config := { maxSteps := 1000000 }) (disch := (first | omega | decide | assumption)) only [ltm_s, ok_n, rd_i, rd_j, fd_i, fd_j, wr_i, wr_j, fw_i, fw_j, ci_s, cj_s, cv_s, dv_n, dw_n, rt_1, rt_b, rt_20, rt_21, okb_0, okb_1, okb_b, nar_0, nar_1, nar_b, i_0, i_1, j_0, j_1, i_lit, j_lit, i_n, iI_add, iI_sub, iI_mul, iI_neg, jI_add, jI_sub, jI_mul, jI_neg, sh_1, an_1, xo_1, di_p, dj_p, i_64A, i_64, j_32, lq_ge, lq_lt, lq_le, lq_gt, lq_eq, i_lt, i_le, i_eq, j_eq, iI_A, jI_J, iI_b, iI_v, jI_v, ↓reduceIte, ite_true, ite_false, Int.reduceEq, Int.reduceLT, Int.reduceLE, Int.reduceAdd, Int.reduceSub, Int.reduceMul, Int.reduceNeg, not_true_eq_false, not_false_eq_true, e14 N1 hH, u]
      exact q1
    · refine s_Model_parting_62 hF hg ?_
      simp (config := { maxSteps := 1000000 }) (disch := (first | omega | decide | assumption)) only [ltm_s, ok_n, rd_i, rd_j, fd_i, fd_j, wr_i, wr_j, fw_i, fw_j, ci_s, cj_s, cv_s, dv_n, dw_n, rt_1, rt_b, rt_20, rt_21, okb_0, okb_1, okb_b, nar_0, nar_1, nar_b, i_0, i_1, j_0, j_1, i_lit, j_lit, i_n, iI_add, iI_sub, iI_mul, iI_neg, jI_add, jI_sub, jI_mul, jI_neg, sh_1, an_1, xo_1, di_p, dj_p, i_64A, i_64, j_32, lq_ge, lq_lt, lq_le, lq_gt, lq_eq, i_lt, i_le, i_eq, j_eq, iI_A, jI_J, iI_b, iI_v, jI_v, ↓reduceIte, ite_true, ite_false, Int.reduceEq, Int.reduceLT, Int.reduceLE, Int.reduceAdd, Int.reduceSub, Int.reduceMul, Int.reduceNeg, not_true_eq_false, not_false_eq_true, e10, u]
      exact q2
theorem m_many_l (hF : F = am_F T0 g) (hg : GG g) {s hour c : Int} (c0 : 0 ≤ c) (c4 : c ≤ 4) {N : am_M} (hc : A N 219 41 = c) {R : am_R} : ∀ n k : Nat, (k : Int) + n = c → F 272 62 [.ref 219, .int (iI s), .int (iI hour), .int (iI (pcs s c.toNat)), .int (iI (-3)), .int (iI 0)] [] N = some R → F 272 31 [.ref 219, .int (iI s), .int (iI hour), .int (iI (pcs s k)), .int (iI k)] [] N = some R := by
  intro n
  induction n with
  | zero =>
    intro k hk hR
    have u : c ≤ (k : Int) := by omega
    have e : c.toNat = k := by omega
    rw [e] at hR
    refine s_Model_parting_31 hF hg ?_
    simp (config := { maxSteps := 1000000 }) (disch := (first | omega | decide | assumption)) only [ltm_s, ok_n, rd_i, rd_j, fd_i, fd_j, wr_i, wr_j, fw_i, fw_j, ci_s, cj_s, cv_s, dv_n, dw_n, rt_1, rt_b, rt_20, rt_21, okb_0, okb_1, okb_b, nar_0, nar_1, nar_b, i_0, i_1, j_0, j_1, i_lit, j_lit, i_n, iI_add, iI_sub, iI_mul, iI_neg, jI_add, jI_sub, jI_mul, jI_neg, sh_1, an_1, xo_1, di_p, dj_p, i_64A, i_64, j_32, lq_ge, lq_lt, lq_le, lq_gt, lq_eq, i_lt, i_le, i_eq, j_eq, iI_A, jI_J, iI_b, iI_v, jI_v, ↓reduceIte, ite_true, ite_false, Int.reduceEq, Int.reduceLT, Int.reduceLE, Int.reduceAdd, Int.reduceSub, Int.reduceMul, Int.reduceNeg, not_true_eq_false, not_false_eq_true, hc, u]
    exact hR
  | succ n ih =>
    intro k hk hR
    have u : ¬ c ≤ (k : Int) := by omega
    have hs : (k : Int) + 1 = ((k + 1 : Nat) : Int) := by omega
    have i1 := ih (k + 1) (by omega) hR
    have e : pcs s (k + 1) = pcs s k + bt s k := rfl
    rw [e] at i1
    refine s_Model_parting_31 hF hg ?_
    simp (config := { maxSteps := 1000000 }) (disch := (first | omega | decide | assumption)) only [ltm_s, ok_n, rd_i, rd_j, fd_i, fd_j, wr_i, wr_j, fw_i, fw_j, ci_s, cj_s, cv_s, dv_n, dw_n, rt_1, rt_b, rt_20, rt_21, okb_0, okb_1, okb_b, nar_0, nar_1, nar_b, i_0, i_1, j_0, j_1, i_lit, j_lit, i_n, iI_add, iI_sub, iI_mul, iI_neg, jI_add, jI_sub, jI_mul, jI_neg, sh_1, an_1, xo_1, di_p, dj_p, i_64A, i_64, j_32, lq_ge, lq_lt, lq_le, lq_gt, lq_eq, i_lt, i_le, i_eq, j_eq, iI_A, jI_J, iI_b, iI_v, jI_v, ↓reduceIte, ite_true, ite_false, Int.reduceEq, Int.reduceLT, Int.reduceLE, Int.reduceAdd, Int.reduceSub, Int.reduceMul, Int.reduceNeg, not_true_eq_false, not_false_eq_true, hc, u, bt_i, hs, i1]
theorem b_parting (hF : F = am_F T0 g) (hg : GG g) (hI : Inv M) {s hour : Int} (s1 : -2147483648 ≤ s) (s2 : s < 2147483648) (u1 : -2147483648 ≤ hour) (u2 : hour < 2147483648) :
    ∃ (r : Int) (M1 M2 : am_M), F 262 0 [.ref 0, .int (iI s), .int (iI hour)] [] M = some (some (.int (iI r)), M1) ∧ F 272 0 [.ref 219, .int (iI s), .int (iI hour)] [] M1 = some (some (.int (iI r)), M2) ∧ Inv M2 := by
  have hI' := hI
  obtain ⟨h1, h2, h3, h4, h5, h6, h7, h8, h9, h10, h11, h12, h13, h14, h15, h16, h17, h18, h19, hm, ht⟩ := hI
  have hd := h4.1
  have hn := h2.1
  have hp := h15.1
  have hp2 := h15.2.1
  have hA := Ag.refl M
  have pv := p2_v (c := A M 219 41) (by omega) (by omega)
  have pv2 := p2_10 (c := A M 219 41) (by omega) (by omega)
  have sl1 := shl (c := A M 219 41) (by omega) (by omega)
  have sr : (iI s >>> (iI (A M 219 41) &&& iI 31)) = iI (s / p2 (A M 219 41)) := by
    rw [← shr s1 s2 (c := A M 219 41) (by omega) (by omega), iI_of]
  have sz := shr_0 s1 s2 (c := A M 219 41) (by omega) (by omega)
  have sdr : -2147483648 ≤ s / p2 (A M 219 41) ∧ s / p2 (A M 219 41) < 2147483648 := by
    have h := shr s1 s2 (c := A M 219 41) (by omega) (by omega)
    rw [← h]
    exact ⟨Int32.le_toInt _, Int32.toInt_lt _⟩
  by_cases q0 : s = 0
  · refine ⟨-1, M, M, ?_, ?_, hI'⟩
    · refine s_RunSayer_parting hF hg ?_
      simp (config := { maxSteps := 1000000 }) (disch := (first | omega | decide | assumption)) only [ltm_s, ok_n, rd_i, rd_j, fd_i, fd_j, wr_i, wr_j, fw_i, fw_j, ci_s, cj_s, cv_s, dv_n, dw_n, rt_1, rt_b, rt_20, rt_21, okb_0, okb_1, okb_b, nar_0, nar_1, nar_b, i_0, i_1, j_0, j_1, i_lit, j_lit, i_n, iI_add, iI_sub, iI_mul, iI_neg, jI_add, jI_sub, jI_mul, jI_neg, sh_1, an_1, xo_1, di_p, dj_p, i_64A, i_64, j_32, lq_ge, lq_lt, lq_le, lq_gt, lq_eq, i_lt, i_le, i_eq, j_eq, iI_A, jI_J, iI_b, iI_v, jI_v, ↓reduceIte, ite_true, ite_false, Int.reduceEq, Int.reduceLT, Int.reduceLE, Int.reduceAdd, Int.reduceSub, Int.reduceMul, Int.reduceNeg, not_true_eq_false, not_false_eq_true, eq_true q0]
    · refine s_Model_parting hF hg ?_
      have q1 : s ≤ 0 := by omega
      simp (config := { maxSteps := 1000000 }) (disch := (first | omega | decide | assumption)) only [ltm_s, ok_n, rd_i, rd_j, fd_i, fd_j, wr_i, wr_j, fw_i, fw_j, ci_s, cj_s, cv_s, dv_n, dw_n, rt_1, rt_b, rt_20, rt_21, okb_0, okb_1, okb_b, nar_0, nar_1, nar_b, i_0, i_1, j_0, j_1, i_lit, j_lit, i_n, iI_add, iI_sub, iI_mul, iI_neg, jI_add, jI_sub, jI_mul, jI_neg, sh_1, an_1, xo_1, di_p, dj_p, i_64A, i_64, j_32, lq_ge, lq_lt, lq_le, lq_gt, lq_eq, i_lt, i_le, i_eq, j_eq, iI_A, jI_J, iI_b, iI_v, jI_v, ↓reduceIte, ite_true, ite_false, Int.reduceEq, Int.reduceLT, Int.reduceLE, Int.reduceAdd, Int.reduceSub, Int.reduceMul, Int.reduceNeg, not_true_eq_false, not_false_eq_true, q1]
  by_cases q1 : s / p2 (A M 219 41) = 0
  · have sr2 := sz.mp q1
    have q2 : ¬ s ≤ 0 := by omega
    have q3 : s < p2 (A M 219 41) := by omega
    have ch := c_noHour hF hg (M := M) u1 u2
    have mh : ∀ N : am_M, F 116 0 [.int (iI hour)] [] N = some (some (.int (iI (bI (0 ≤ hour ∧ hour ≤ 23)))), N) := fun N => m_isHour hF hg u1 u2
    by_cases q4 : hour < 0 ∨ 23 < hour
    · rw [bI_t q4] at ch
      rw [bI_f (by omega)] at mh
      refine ⟨-2, M, M, ?_, ?_, hI'⟩
      · refine s_RunSayer_parting hF hg ?_
        simp (config := { maxSteps := 1000000 }) (disch := (first | omega | decide | assumption)) only [ltm_s, ok_n, rd_i, rd_j, fd_i, fd_j, wr_i, wr_j, fw_i, fw_j, ci_s, cj_s, cv_s, dv_n, dw_n, rt_1, rt_b, rt_20, rt_21, okb_0, okb_1, okb_b, nar_0, nar_1, nar_b, i_0, i_1, j_0, j_1, i_lit, j_lit, i_n, iI_add, iI_sub, iI_mul, iI_neg, jI_add, jI_sub, jI_mul, jI_neg, sh_1, an_1, xo_1, di_p, dj_p, i_64A, i_64, j_32, lq_ge, lq_lt, lq_le, lq_gt, lq_eq, i_lt, i_le, i_eq, j_eq, iI_A, jI_J, iI_b, iI_v, jI_v, ↓reduceIte, ite_true, ite_false, Int.reduceEq, Int.reduceLT, Int.reduceLE, Int.reduceAdd, Int.reduceSub, Int.reduceMul, Int.reduceNeg, not_true_eq_false, not_false_eq_true, q0, hp2, sr, q1, ch]
      · refine s_Model_parting hF hg ?_
        simp (config := { maxSteps := 1000000 }) (disch := (first | omega | decide | assumption)) only [ltm_s, ok_n, rd_i, rd_j, fd_i, fd_j, wr_i, wr_j, fw_i, fw_j, ci_s, cj_s, cv_s, dv_n, dw_n, rt_1, rt_b, rt_20, rt_21, okb_0, okb_1, okb_b, nar_0, nar_1, nar_b, i_0, i_1, j_0, j_1, i_lit, j_lit, i_n, iI_add, iI_sub, iI_mul, iI_neg, jI_add, jI_sub, jI_mul, jI_neg, sh_1, an_1, xo_1, di_p, dj_p, i_64A, i_64, j_32, lq_ge, lq_lt, lq_le, lq_gt, lq_eq, i_lt, i_le, i_eq, j_eq, iI_A, jI_J, iI_b, iI_v, jI_v, ↓reduceIte, ite_true, ite_false, Int.reduceEq, Int.reduceLT, Int.reduceLE, Int.reduceAdd, Int.reduceSub, Int.reduceMul, Int.reduceNeg, not_true_eq_false, not_false_eq_true, q2, sl1, q3, mh]
    rw [bI_f q4] at ch
    rw [bI_t (by omega)] at mh
    have e41 : (((A M 219 41).toNat : Nat) : Int) = A M 219 41 := Int.toNat_of_nonneg (by omega)
    have pe := pcs_eq (s := s) (n := (A M 219 41).toNat) (by omega) (by omega) (by rw [e41]; exact q3)
    have pr := pcs_r (s := s) (A M 219 41).toNat
    have hx : ∃ q : Int, 0 ≤ q ∧ q < A M 219 41 ∧ bt s q = 1 := by
      obtain ⟨q, x0, x1, x2⟩ := pcs_ex (s := s) (A M 219 41).toNat (by have := pe.2 (by omega); omega)
      exact ⟨q, x0, by omega, x2⟩
    have bc := fun N : am_M => c_bitCount hF hg (M := N) (s := s) (by omega) (by omega)
    rw [← pe.1] at bc
    obtain ⟨N1, x1, x2, x3, x4⟩ := c_setHour hF hg h2 hA (hour := hour) (by omega) (by omega)
    have hs : Hs M hour N1 := ⟨x2.ag (by decide), hm.ke x2 (by decide) (by decide) (by decide), x3, x4⟩
    obtain ⟨r, M1, -, y1, -, y3, -, y5, -⟩ := pt_o hF hg h1 h2 h3 h4 h6 h7 h8 h9 h14 h15 (s := s) (hour := hour) (by omega) (by omega) hx (nD M).toNat 0 (pcs s (A M 219 41).toNat) (-3) N1 M (by omega) (by omega) (by omega) hs hA
    have K1 : Ke [32, 33, 34, 35, 36, 37, 38, 39, 40, 41, 70, 71, 75, 76, 80, 81, 85, 86] M M1 := (x2.mono (by decide)).trans y5
    have A1 : Ag M M1 := y3.1
    obtain ⟨r', M1', M2, z1, z2, z3, z4, z5, z6⟩ := pt_o hF hg h1 h2 h3 h4 h6 h7 h8 h9 h14 h15 (s := s) (hour := hour) (by omega) (by omega) hx (nD M).toNat 0 (pcs s (A M 219 41).toNat) (-3) N1 M1 (by omega) (by omega) (by omega) hs A1
    rw [y1] at z1
    have e := Option.some.inj z1
    have ea := (Prod.mk.inj e).1
    have eb := (Prod.mk.inj e).2
    subst eb
    have k219 : ∀ a k : Nat, a = 219 → 71 ≤ k → M2.1 a k = M1.1 a k := fun a k ha hk => by
      have h := z6.2.1 (k : Int) (by omega)
      unfold A at h
      rw [Int.toNat_natCast] at h
      rw [ha]
      exact Int32.toInt_inj.mp h
    have c2 : Ch [262, 263, 264, 274, 275] [(219, 56), (219, 57), (219, 58), (219, 59), (219, 60), (219, 61), (219, 62), (219, 63), (219, 64), (219, 65), (219, 66), (219, 67), (219, 68), (219, 69), (219, 70)] M1 M2 := fun a k ha hk => by
      by_cases q : a = 219
      · by_cases qk : 71 ≤ k
        · refine ⟨k219 a k q qk, fun _ => ?_⟩
          have h := z6.2.2 (k : Int) (by omega)
          unfold J at h
          rw [Int.toNat_natCast] at h
          rw [q]
          exact Int64.toInt_inj.mp h
        · have q56 : k < 56 := by
            subst q
            simp only [List.mem_cons, Prod.mk.injEq, true_and, List.not_mem_nil, or_false] at hk
            omega
          have hst : stb a k = true := by
            rw [q]
            have : Nat.blt k 56 = true := Nat.ble_eq_true_of_le (by omega)
            unfold stb
            rw [this]; rfl
          have h1' := A1 a k hst
          have h2' := z4 a k hst
          exact ⟨h2'.1.trans h1'.1.symm, fun _ => h2'.2.trans h1'.2.symm⟩
      · have h := z6.1 a (by simp only [List.mem_cons, List.not_mem_nil, or_false] at ha ⊢; omega)
        exact ⟨congrFun h.1 k, fun _ => congrFun h.2 k⟩
    have c : Ch [32, 33, 34, 35, 36, 37, 38, 39, 40, 41, 70, 71, 75, 76, 80, 81, 85, 86, 262, 263, 264, 274, 275] [(219, 56), (219, 57), (219, 58), (219, 59), (219, 60), (219, 61), (219, 62), (219, 63), (219, 64), (219, 65), (219, 66), (219, 67), (219, 68), (219, 69), (219, 70)] M M2 := (K1.ch.mono rfl).trans (c2.mono rfl)
    have im : Imk M2 := y3.2.1.ke z6.1 (by decide) (by decide) (by decide)
    refine ⟨r', M1, M2, ?_, ?_, ⟨c.i1 rfl h1, c.i2 rfl h2, c.i3 rfl h3, c.i4 rfl h4, c.i5 rfl h5, c.i6 rfl h6, c.i7 rfl h7, c.i8 rfl h8, c.i9 rfl h9, c.i10 rfl h10, c.i11 rfl h11, c.i12 rfl h12, c.i13 rfl h13, c.i14 rfl h14, c.i15 rfl h15, c.i16 rfl h16, c.i17 rfl h17, c.i18 rfl h18, c.i19 rfl h19, im, c.itd rfl ht⟩⟩
    · refine s_RunSayer_parting hF hg ?_
      simp (config := { maxSteps := 1000000 }) (disch := (first | omega | decide | assumption)) only [ltm_s, ok_n, rd_i, rd_j, fd_i, fd_j, wr_i, wr_j, fw_i, fw_j, ci_s, cj_s, cv_s, dv_n, dw_n, rt_1, rt_b, rt_20, rt_21, okb_0, okb_1, okb_b, nar_0, nar_1, nar_b, i_0, i_1, j_0, j_1, i_lit, j_lit, i_n, iI_add, iI_sub, iI_mul, iI_neg, jI_add, jI_sub, jI_mul, jI_neg, sh_1, an_1, xo_1, di_p, dj_p, i_64A, i_64, j_32, lq_ge, lq_lt, lq_le, lq_gt, lq_eq, i_lt, i_le, i_eq, j_eq, iI_A, jI_J, iI_b, iI_v, jI_v, ↓reduceIte, ite_true, ite_false, Int.reduceEq, Int.reduceLT, Int.reduceLE, Int.reduceAdd, Int.reduceSub, Int.reduceMul, Int.reduceNeg, not_true_eq_false, not_false_eq_true, q0, hp2, sr, q1, ch, x1, bc]
      rw [← ea]
      exact y1
    · have e1 : A M1 219 41 = A M 219 41 := ag A1 rfl
      refine s_Model_parting hF hg ?_
      simp (config := { maxSteps := 1000000 }) (disch := (first | omega | decide | assumption)) only [ltm_s, ok_n, rd_i, rd_j, fd_i, fd_j, wr_i, wr_j, fw_i, fw_j, ci_s, cj_s, cv_s, dv_n, dw_n, rt_1, rt_b, rt_20, rt_21, okb_0, okb_1, okb_b, nar_0, nar_1, nar_b, i_0, i_1, j_0, j_1, i_lit, j_lit, i_n, iI_add, iI_sub, iI_mul, iI_neg, jI_add, jI_sub, jI_mul, jI_neg, sh_1, an_1, xo_1, di_p, dj_p, i_64A, i_64, j_32, lq_ge, lq_lt, lq_le, lq_gt, lq_eq, i_lt, i_le, i_eq, j_eq, iI_A, jI_J, iI_b, iI_v, jI_v, ↓reduceIte, ite_true, ite_false, Int.reduceEq, Int.reduceLT, Int.reduceLE, Int.reduceAdd, Int.reduceSub, Int.reduceMul, Int.reduceNeg, not_true_eq_false, not_false_eq_true, q2, e1, sl1, q3, mh]
      exact m_many_l hF hg (c := A M 219 41) (by omega) (by omega) e1 (A M 219 41).toNat 0 (by omega) z2
  · refine ⟨-1, M, M, ?_, ?_, hI'⟩
    · refine s_RunSayer_parting hF hg ?_
      simp (config := { maxSteps := 1000000 }) (disch := (first | omega | decide | assumption)) only [ltm_s, ok_n, rd_i, rd_j, fd_i, fd_j, wr_i, wr_j, fw_i, fw_j, ci_s, cj_s, cv_s, dv_n, dw_n, rt_1, rt_b, rt_20, rt_21, okb_0, okb_1, okb_b, nar_0, nar_1, nar_b, i_0, i_1, j_0, j_1, i_lit, j_lit, i_n, iI_add, iI_sub, iI_mul, iI_neg, jI_add, jI_sub, jI_mul, jI_neg, sh_1, an_1, xo_1, di_p, dj_p, i_64A, i_64, j_32, lq_ge, lq_lt, lq_le, lq_gt, lq_eq, i_lt, i_le, i_eq, j_eq, iI_A, jI_J, iI_b, iI_v, jI_v, ↓reduceIte, ite_true, ite_false, Int.reduceEq, Int.reduceLT, Int.reduceLE, Int.reduceAdd, Int.reduceSub, Int.reduceMul, Int.reduceNeg, not_true_eq_false, not_false_eq_true, q0, hp2, sr, q1]
    · refine s_Model_parting hF hg ?_
      by_cases q2 : s ≤ 0
      · simp (config := { maxSteps := 1000000 }) (disch := (first | omega | decide | assumption)) only [ltm_s, ok_n, rd_i, rd_j, fd_i, fd_j, wr_i, wr_j, fw_i, fw_j, ci_s, cj_s, cv_s, dv_n, dw_n, rt_1, rt_b, rt_20, rt_21, okb_0, okb_1, okb_b, nar_0, nar_1, nar_b, i_0, i_1, j_0, j_1, i_lit, j_lit, i_n, iI_add, iI_sub, iI_mul, iI_neg, jI_add, jI_sub, jI_mul, jI_neg, sh_1, an_1, xo_1, di_p, dj_p, i_64A, i_64, j_32, lq_ge, lq_lt, lq_le, lq_gt, lq_eq, i_lt, i_le, i_eq, j_eq, iI_A, jI_J, iI_b, iI_v, jI_v, ↓reduceIte, ite_true, ite_false, Int.reduceEq, Int.reduceLT, Int.reduceLE, Int.reduceAdd, Int.reduceSub, Int.reduceMul, Int.reduceNeg, not_true_eq_false, not_false_eq_true, q2]
      · have q3 : ¬ s < p2 (A M 219 41) := fun h => q1 (sz.mpr ⟨by omega, h⟩)
        simp (config := { maxSteps := 1000000 }) (disch := (first | omega | decide | assumption)) only [ltm_s, ok_n, rd_i, rd_j, fd_i, fd_j, wr_i, wr_j, fw_i, fw_j, ci_s, cj_s, cv_s, dv_n, dw_n, rt_1, rt_b, rt_20, rt_21, okb_0, okb_1, okb_b, nar_0, nar_1, nar_b, i_0, i_1, j_0, j_1, i_lit, j_lit, i_n, iI_add, iI_sub, iI_mul, iI_neg, jI_add, jI_sub, jI_mul, jI_neg, sh_1, an_1, xo_1, di_p, dj_p, i_64A, i_64, j_32, lq_ge, lq_lt, lq_le, lq_gt, lq_eq, i_lt, i_le, i_eq, j_eq, iI_A, jI_J, iI_b, iI_v, jI_v, ↓reduceIte, ite_true, ite_false, Int.reduceEq, Int.reduceLT, Int.reduceLE, Int.reduceAdd, Int.reduceSub, Int.reduceMul, Int.reduceNeg, not_true_eq_false, not_false_eq_true, q2, sl1, q3]
end Pg
