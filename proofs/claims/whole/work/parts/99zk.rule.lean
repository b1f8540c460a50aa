/-! RULE, by both -/
section Ru
variable {M N N' : am_M} {g : am_G} {F : am_FT} {x : Int → Int} {n : Int} {a : Nat}
/-- the rule is kept, or not; the tape is empty -/
def Tl (N N' : am_M) (ok r t m : Int) : Prop := Ch [253, 254] [(219, 36), (219, 45)] N N' ∧ A N' 219 36 = 0 ∧ (∀ z : Int, 0 ≤ z → ¬ z = r → A N' 253 z = A N 253 z ∧ A N' 254 z = A N 254 z) ∧ A N' 219 45 = r + ok ∧ (ok = 1 → A N' 253 r = t ∧ A N' 254 r = m)
theorem tlz_1 {r t m : Int} (r0 : 0 ≤ r) (r6 : r < 6) (t0 : 0 ≤ t) (t1 : t ≤ 9999) (m0 : 0 ≤ m) (m3 : m ≤ 3) : Tl N (W_ (W_ (W_ (W_ N 219 36 0) 253 r t) 254 r m) 219 45 (r + 1)) 1 r t m := by
  refine ⟨(((Ch.refl.wm (Or.inr (by decide))).wm (Or.inl (by decide))).wm (Or.inl (by decide))).wm (Or.inr (by decide)), by simp (config := { maxSteps := 1000000 }) (disch := (first | omega | decide | assumption)) only [ltm_s, ok_n, rd_i, rd_j, fd_i, fd_j, wr_i, wr_j, fw_i, fw_j, ci_s, cj_s, cv_s, dv_n, dw_n, rt_1, rt_b, rt_20, rt_21, okb_0, okb_1, okb_b, nar_0, nar_1, nar_b, i_0, i_1, j_0, j_1, i_lit, j_lit, i_n, iI_add, iI_sub, iI_mul, iI_neg, jI_add, jI_sub, jI_mul, jI_neg, sh_1, an_1, xo_1, di_p, dj_p, i_64A, i_64, j_32, lq_ge, lq_lt, lq_le, lq_gt, lq_eq, i_lt, i_le, i_eq, j_eq, iI_A, jI_J, iI_b, iI_v, jI_v, ↓reduceIte, ite_true, ite_false, Int.reduceEq, Int.reduceLT, Int.reduceLE, Int.reduceAdd, Int.reduceSub, Int.reduceMul, Int.reduceNeg, not_true_eq_false, not_false_eq_true, A_Wn, A_WA, A_Wb, A_Ws, A_Wo, A_X, J_W, J_Xn, J_XJ, J_Xs, J_Xo], fun z z0 z1 => ⟨by simp (config := { maxSteps := 1000000 }) (disch := (first | omega | decide | assumption)) only [ltm_s, ok_n, rd_i, rd_j, fd_i, fd_j, wr_i, wr_j, fw_i, fw_j, ci_s, cj_s, cv_s, dv_n, dw_n, rt_1, rt_b, rt_20, rt_21, okb_0, okb_1, okb_b, nar_0, nar_1, nar_b, i_0, i_1, j_0, j_1, i_lit, j_lit, i_n, iI_add, iI_sub, iI_mul, iI_neg, jI_add, jI_sub, jI_mul, jI_neg, sh_1, an_1, xo_1, di_p, dj_p, i_64A, i_64, j_32, lq_ge, lq_lt, lq_le, lq_gt, lq_eq, i_lt, i_le, i_eq, j_eq, iI_A, jI_J, iI_b, iI_v, jI_v, ↓reduceIte, ite_true, ite_false, Int.reduceEq, Int.reduceLT, Int.reduceLE, Int.reduceAdd, Int.reduceSub, Int.reduceMul, Int.reduceNeg, not_true_eq_false, not_false_eq_true, A_Wn, A_WA, A_Wb, A_Ws, A_Wo, A_X, J_W, J_Xn, J_XJ, J_Xs, J_Xo], by simp (config := { maxSteps := 1000000 }) (disch := (first | omega | decide | assumption)) only [ltm_s, ok_n, rd_i, rd_j, fd_i, fd_j, wr_i, wr_j, fw_i, fw_j, ci_s, cj_s, cv_s, dv_n, dw_n, rt_1, rt_b, rt_20, rt_21, okb_0, okb_1, okb_b, nar_0, nar_1, nar_b, i_0, i_1, j_0, j_1, i_lit, j_lit, i_n, iI_add, iI_sub, iI_mul, iI_neg, jI_add, jI_sub, jI_mul, jI_neg, sh_1, an_1, xo_1, di_p, dj_p, i_64A, i_64, j_32, lq_ge, lq_lt, lq_le, lq_gt, lq_eq, i_lt, i_le, i_eq, j_eq, iI_A, jI_J, iI_b, iI_v, jI_v, ↓reduceIte, ite_true, ite_false, Int.reduceEq, Int.reduceLT, Int.reduceLE, Int.reduceAdd, Int.reduceSub, Int.reduceMul, Int.reduceNeg, not_true_eq_false, not_false_eq_true, A_Wn, A_WA, A_Wb, A_Ws, A_Wo, A_X, J_W, J_Xn, J_XJ, J_Xs, J_Xo]⟩, by simp (config := { maxSteps := 1000000 }) (disch := (first | omega | decide | assumption)) only [ltm_s, ok_n, rd_i, rd_j, fd_i, fd_j, wr_i, wr_j, fw_i, fw_j, ci_s, cj_s, cv_s, dv_n, dw_n, rt_1, rt_b, rt_20, rt_21, okb_0, okb_1, okb_b, nar_0, nar_1, nar_b, i_0, i_1, j_0, j_1, i_lit, j_lit, i_n, iI_add, iI_sub, iI_mul, iI_neg, jI_add, jI_sub, jI_mul, jI_neg, sh_1, an_1, xo_1, di_p, dj_p, i_64A, i_64, j_32, lq_ge, lq_lt, lq_le, lq_gt, lq_eq, i_lt, i_le, i_eq, j_eq, iI_A, jI_J, iI_b, iI_v, jI_v, ↓reduceIte, ite_true, ite_false, Int.reduceEq, Int.reduceLT, Int.reduceLE, Int.reduceAdd, Int.reduceSub, Int.reduceMul, Int.reduceNeg, not_true_eq_false, not_false_eq_true, A_Wn, A_WA, A_Wb, A_Ws, A_Wo, A_X, J_W, J_Xn, J_XJ, J_Xs, J_Xo], fun _ => ⟨by simp (config := { maxSteps := 1000000 }) (disch := (first | omega | decide | assumption)) only [ltm_s, ok_n, rd_i, rd_j, fd_i, fd_j, wr_i, wr_j, fw_i, fw_j, ci_s, cj_s, cv_s, dv_n, dw_n, rt_1, rt_b, rt_20, rt_21, okb_0, okb_1, okb_b, nar_0, nar_1, nar_b, i_0, i_1, j_0, j_1, i_lit, j_lit, i_n, iI_add, iI_sub, iI_mul, iI_neg, jI_add, jI_sub, jI_mul, jI_neg, sh_1, an_1, xo_1, di_p, dj_p, i_64A, i_64, j_32, lq_ge, lq_lt, lq_le, lq_gt, lq_eq, i_lt, i_le, i_eq, j_eq, iI_A, jI_J, iI_b, iI_v, jI_v, ↓reduceIte, ite_true, ite_false, Int.reduceEq, Int.reduceLT, Int.reduceLE, Int.reduceAdd, Int.reduceSub, Int.reduceMul, Int.reduceNeg, not_true_eq_false, not_false_eq_true, A_Wn, A_WA, A_Wb, A_Ws, A_Wo, A_X, J_W, J_Xn, J_XJ, J_Xs, J_Xo], by simp (config := { maxSteps := 1000000 }) (disch := (first | omega | decide | assumption)) only [ltm_s, ok_n, rd_i, rd_j, fd_i, fd_j, wr_i, wr_j, fw_i, fw_j, ci_s, cj_s, cv_s, dv_n, dw_n, rt_1, rt_b, rt_20, rt_21, okb_0, okb_1, okb_b, nar_0, nar_1, nar_b, i_0, i_1, j_0, j_1, i_lit, j_lit, i_n, iI_add, iI_sub, iI_mul, iI_neg, jI_add, jI_sub, jI_mul, jI_neg, sh_1, an_1, xo_1, di_p, dj_p, i_64A, i_64, j_32, lq_ge, lq_lt, lq_le, lq_gt, lq_eq, i_lt, i_le, i_eq, j_eq, iI_A, jI_J, iI_b, iI_v, jI_v, ↓reduceIte, ite_true, ite_false, Int.reduceEq, Int.reduceLT, Int.reduceLE, Int.reduceAdd, Int.reduceSub, Int.reduceMul, Int.reduceNeg, not_true_eq_false, not_false_eq_true, A_Wn, A_WA, A_Wb, A_Ws, A_Wo, A_X, J_W, J_Xn, J_XJ, J_Xs, J_Xo]⟩⟩
theorem tlz_0 {r : Int} (h : A N 219 45 = r) : Tl N (W_ N 219 36 0) 0 r 0 0 := by
  refine ⟨Ch.refl.wm (Or.inr (by decide)), by simp (config := { maxSteps := 1000000 }) (disch := (first | omega | decide | assumption)) only [ltm_s, ok_n, rd_i, rd_j, fd_i, fd_j, wr_i, wr_j, fw_i, fw_j, ci_s, cj_s, cv_s, dv_n, dw_n, rt_1, rt_b, rt_20, rt_21, okb_0, okb_1, okb_b, nar_0, nar_1, nar_b, i_0, i_1, j_0, j_1, i_lit, j_lit, i_n, iI_add, iI_sub, iI_mul, iI_neg, jI_add, jI_sub, jI_mul, jI_neg, sh_1, an_1, xo_1, di_p, dj_p, i_64A, i_64, j_32, lq_ge, lq_lt, lq_le, lq_gt, lq_eq, i_lt, i_le, i_eq, j_eq, iI_A, jI_J, iI_b, iI_v, jI_v, ↓reduceIte, ite_true, ite_false, Int.reduceEq, Int.reduceLT, Int.reduceLE, Int.reduceAdd, Int.reduceSub, Int.reduceMul, Int.reduceNeg, not_true_eq_false, not_false_eq_true, A_Wn, A_WA, A_Wb, A_Ws, A_Wo, A_X, J_W, J_Xn, J_XJ, J_Xs, J_Xo], fun z z0 z1 => ⟨by simp (config := { maxSteps := 1000000 }) (disch := (first | omega | decide | assumption)) only [ltm_s, ok_n, rd_i, rd_j, fd_i, fd_j, wr_i, wr_j, fw_i, fw_j, ci_s, cj_s, cv_s, dv_n, dw_n, rt_1, rt_b, rt_20, rt_21, okb_0, okb_1, okb_b, nar_0, nar_1, nar_b, i_0, i_1, j_0, j_1, i_lit, j_lit, i_n, iI_add, iI_sub, iI_mul, iI_neg, jI_add, jI_sub, jI_mul, jI_neg, sh_1, an_1, xo_1, di_p, dj_p, i_64A, i_64, j_32, lq_ge, lq_lt, lq_le, lq_gt, lq_eq, i_lt, i_le, i_eq, j_eq, iI_A, jI_J, iI_b, iI_v, jI_v, ↓reduceIte, ite_true, ite_false, Int.reduceEq, Int.reduceLT, Int.reduceLE, Int.reduceAdd, Int.reduceSub, Int.reduceMul, Int.reduceNeg, not_true_eq_false, not_false_eq_true, A_Wn, A_WA, A_Wb, A_Ws, A_Wo, A_X, J_W, J_Xn, J_XJ, J_Xs, J_Xo], by simp (config := { maxSteps := 1000000 }) (disch := (first | omega | decide | assumption)) only [ltm_s, ok_n, rd_i, rd_j, fd_i, fd_j, wr_i, wr_j, fw_i, fw_j, ci_s, cj_s, cv_s, dv_n, dw_n, rt_1, rt_b, rt_20, rt_21, okb_0, okb_1, okb_b, nar_0, nar_1, nar_b, i_0, i_1, j_0, j_1, i_lit, j_lit, i_n, iI_add, iI_sub, iI_mul, iI_neg, jI_add, jI_sub, jI_mul, jI_neg, sh_1, an_1, xo_1, di_p, dj_p, i_64A, i_64, j_32, lq_ge, lq_lt, lq_le, lq_gt, lq_eq, i_lt, i_le, i_eq, j_eq, iI_A, jI_J, iI_b, iI_v, jI_v, ↓reduceIte, ite_true, ite_false, Int.reduceEq, Int.reduceLT, Int.reduceLE, Int.reduceAdd, Int.reduceSub, Int.reduceMul, Int.reduceNeg, not_true_eq_false, not_false_eq_true, A_Wn, A_WA, A_Wb, A_Ws, A_Wo, A_X, J_W, J_Xn, J_XJ, J_Xs, J_Xo]⟩, ?_, fun h => by omega⟩
  rw [A_Wo (by omega) (by omega) (by omega), h]; omega
theorem m_tl (hF : F = am_F T0 g) (hg : GG g) {ok r t m q : Int} (r0 : 0 ≤ r) (r6 : r < 6) (t0 : 0 ≤ t) (t1 : t ≤ 9999) (m0 : 0 ≤ m) (m3 : m ≤ 3) (h45 : A N 219 45 = r) (h92 : A N 219 92 = 1 - ok) (h75 : A N 219 75 = q) (q0 : 0 ≤ q) (q1 : q ≤ 160) (ok01 : ok = 0 ∨ ok = 1) : ∃ N' : am_M, F 235 102 [.ref 219, .int (iI t), .int (iI m), .int (iI 0)] [] N = some (some (.int (iI (if ok = 1 then r else -100 - q))), N') ∧ (ok = 0 → Tl N N' 0 r 0 0) ∧ (ok = 1 → Tl N N' 1 r t m) := by
  rcases ok01 with rfl | rfl
  · refine ⟨_, ?_, fun _ => tlz_0 h45, fun h => by omega⟩
    rw [if_neg (by omega)]
    have h92' : A N 219 92 = 1 := by omega
    refine s_Model_rule_102 hF hg ?_
    simp (config := { maxSteps := 1000000 }) (disch := (first | omega | decide | assumption)) only [ltm_s, ok_n, rd_i, rd_j, fd_i, fd_j, wr_i, wr_j, fw_i, fw_j, ci_s, cj_s, cv_s, dv_n, dw_n, rt_1, rt_b, rt_20, rt_21, okb_0, okb_1, okb_b, nar_0, nar_1, nar_b, i_0, i_1, j_0, j_1, i_lit, j_lit, i_n, iI_add, iI_sub, iI_mul, iI_neg, jI_add, jI_sub, jI_mul, jI_neg, sh_1, an_1, xo_1, di_p, dj_p, i_64A, i_64, j_32, lq_ge, lq_lt, lq_le, lq_gt, lq_eq, i_lt, i_le, i_eq, j_eq, iI_A, jI_J, iI_b, iI_v, jI_v, ↓reduceIte, ite_true, ite_false, Int.reduceEq, Int.reduceLT, Int.reduceLE, Int.reduceAdd, Int.reduceSub, Int.reduceMul, Int.reduceNeg, not_true_eq_false, not_false_eq_true, A_Wn, A_WA, A_Wb, A_Ws, A_Wo, A_X, J_W, J_Xn, J_XJ, J_Xs, J_Xo, h92', h75]
  · refine ⟨_, ?_, fun h => by omega, fun _ => tlz_1 r0 r6 t0 t1 m0 m3⟩
    rw [if_pos rfl]
    have h92' : A N 219 92 = 0 := by omega
    have er : r + 1 - 1 = r := by omega
    refine s_Model_rule_102 hF hg ?_
    simp (config := { maxSteps := 1000000 }) (disch := (first | omega | decide | assumption)) only [ltm_s, ok_n, rd_i, rd_j, fd_i, fd_j, wr_i, wr_j, fw_i, fw_j, ci_s, cj_s, cv_s, dv_n, dw_n, rt_1, rt_b, rt_20, rt_21, okb_0, okb_1, okb_b, nar_0, nar_1, nar_b, i_0, i_1, j_0, j_1, i_lit, j_lit, i_n, iI_add, iI_sub, iI_mul, iI_neg, jI_add, jI_sub, jI_mul, jI_neg, sh_1, an_1, xo_1, di_p, dj_p, i_64A, i_64, j_32, lq_ge, lq_lt, lq_le, lq_gt, lq_eq, i_lt, i_le, i_eq, j_eq, iI_A, jI_J, iI_b, iI_v, jI_v, ↓reduceIte, ite_true, ite_false, Int.reduceEq, Int.reduceLT, Int.reduceLE, Int.reduceAdd, Int.reduceSub, Int.reduceMul, Int.reduceNeg, not_true_eq_false, not_false_eq_true, A_Wn, A_WA, A_Wb, A_Ws, A_Wo, A_X, J_W, J_Xn, J_XJ, J_Xs, J_Xo, h92', h45, er]
theorem ch1r (c : Ch [] [(61, 2)] N N') {z : Nat} {j : Int} (hz : z ≠ 61) : A N' z j = A N z j := congrArg Int32.toInt (c z j.toNat (by simp only [List.not_mem_nil, not_false_eq_true]) (by simp only [List.mem_singleton, Prod.mk.injEq]; exact fun h => hz h.1)).1
theorem ch1s (c : Ch [] [(61, 2)] N N') : Ch [a, a + 1, a + 2, a + 3] [(61, 2)] N N' := c.sub (fun b hb => by cases hb)
theorem rl_t (hF : F = am_F T0 g) (hg : GG g) (ht : Tp x n) (ha : isRu g a) (a0 : 112 ≤ a) (a1 : a + 3 < 137) {r : Int} (r0 : 0 ≤ r) (r6 : r < 6) : ∃ (ok q t m : Int) (tf ts tv : Int → Int), (ok = 0 ∨ ok = 1) ∧ (0 ≤ q ∧ q ≤ n) ∧ (0 ≤ t ∧ t ≤ 9999) ∧ (0 ≤ m ∧ m ≤ 3) ∧ (ok = 1 → ∀ j : Int, 0 ≤ j → j < m → (0 ≤ tf j ∧ tf j ≤ 5) ∧ (0 ≤ ts j ∧ ts j ≤ 2) ∧ 0 ≤ tv j ∧ tv j ≤ 9999) ∧
    (∀ N : am_M, Ct x n N → ∃ N' : am_M, F 273 0 [.ref a, .ref 61] [] N = some (some (.int (iI (if ok = 1 then -1 else q))), N') ∧ Ch [a, a + 1, a + 2, a + 3] [(61, 2)] N N' ∧ (ok = 1 → A N' a 0 = t ∧ A N' a 1 = m ∧ ∀ j : Int, 0 ≤ j → j < m → A N' (a + 1) j = tf j ∧ A N' (a + 2) j = sgs (ts j) ∧ A N' (a + 3) j = tv j)) ∧
    (∀ N : am_M, Mt x n N → A N 219 45 = r → ∃ N1 N' : am_M, F 235 0 [.ref 219] [] N = some (some (.int (iI (if ok = 1 then r else -100 - q))), N') ∧ Ch [255] [(219, 75), (219, 92)] N N1 ∧ (∀ z : Int, 0 ≤ z → z < 3 * r → A N1 255 z = A N 255 z) ∧ (ok = 0 → Tl N1 N' 0 r 0 0) ∧ (ok = 1 → Tl N1 N' 1 r t m ∧ ∀ j : Int, 0 ≤ j → j < m → A N1 255 (3 * r + j) = 100000 * tf j + 10000 * ts j + tv j)) := by
  have hn := ht.1
  have e0 : tx 0 = [116, 97, 107, 101] ++ [32] := rfl
  have e1 : tx 1 = [32] ++ ([105] ++ ([102] ++ [32])) := rfl
  have k0 := mt_r ht (cs := tx 0) (p := 0) (tx_n 0 (by decide)) (by omega) (by omega)
  have n61 : a ≠ 61 := by omega
  -- the class begins
  have cst : ∀ N : am_M, Ct x n N → ∃ Y N3 : am_M, Y = W_ (W_ N a 1 0) 61 2 0 ∧ F 257 0 [.ref 61, .ref (1000001 + 0)] [] Y = some (some (.int (iI (mtk x (tx 0) 0))), N3) ∧ Ch [a, a + 1, a + 2, a + 3] [(61, 2)] N N3 ∧ A N3 61 2 = mtp x (tx 0) 0 ∧ A N3 a 1 = 0 ∧ Ct x n N3 := fun N hc => by
    have cY : Ch [a, a + 1, a + 2, a + 3] [(61, 2)] N (W_ (W_ N a 1 0) 61 2 0) := (Ch.refl.wm (Or.inl (by simp only [List.mem_cons, true_or]))).wm (Or.inr (by decide))
    obtain ⟨N3, t1, t2, t3⟩ := c_text hF hg ht (k := 0) (by decide) (hc.ch4 a0 cY) (A_Ws (by omega) (by omega)) (by omega) (by omega)
    have c3 := cY.trans (ch1s t2)
    refine ⟨_, N3, rfl, t1, c3, t3, ?_, hc.ch4 a0 c3⟩
    rw [ch1r t2 n61, A_Wn n61, A_Ws (by omega) (by omega)]
  -- the model begins
  have mst : ∀ N : am_M, Mt x n N → A N 219 45 = r → ∃ Y N1 N2 : am_M, Y = W_ (W_ N 219 75 0) 219 92 0 ∧ F 181 0 [.ref 219, .int (iI 116), .int (iI 97), .int (iI 107), .int (iI 101)] [] Y = some (none, N1) ∧ F 110 0 [.ref 219, .int (iI 32)] [] N1 = some (none, N2) ∧ Ch [] [(219, 75), (219, 92)] N N2 ∧ A N2 219 75 = mtp x (tx 0) 0 ∧ A N2 219 92 = 1 - mtk x (tx 0) 0 ∧ Mt x n N2 ∧ A N2 219 45 = r := fun N hm hr => by
    have cY : Ch [] [(219, 75), (219, 92)] N (W_ (W_ N 219 75 0) 219 92 0) := (Ch.refl.wm (Or.inr (by decide))).wm (Or.inr (by decide))
    obtain ⟨N1, d1, d2, d3, d4, d5, d6⟩ := m_eats4 hF hg ht (hm.c2 cY) (p := 0) (b := 0) (c1 := 116) (c2 := 97) (c3 := 107) (c4 := 101) (by rw [A_Wo (by omega) (by omega) (by omega), A_Ws (by omega) (by omega)]) (by omega) (by omega) (A_Ws (by omega) (by omega)) (Or.inl rfl) (by omega) (by omega) (by omega) (by omega)
    obtain ⟨N2, f1, f2, f3, f4, f5, f6⟩ := m_eats hF hg ht ((hm.c2 cY).c2 d2) (c := 32) d3 d5.1 d5.2 d4 d6 (by omega) (by omega)
    have ea := et_app (x := x) (ds := [32]) (cs := [116, 97, 107, 101]) (p := 0) (b := 0)
    have c := cY.trans (d2.trans f2)
    have ez := et_0 (x := x) (cs := [116, 97, 107, 101] ++ [32]) (p := 0)
    refine ⟨_, N1, N2, rfl, d1, f1, c, ?_, ?_, hm.c2 c, (c.f (a := 219) (z := 45) rfl).trans hr⟩
    · rw [f3, e0, ← ez.1, ea.1]
    · rw [f4, e0, ← ez.2, ea.2]
  by_cases T : mtk x (tx 0) 0 = 0
  · refine ⟨0, mtp x (tx 0) 0, 0, 0, fun _ => 0, fun _ => 0, fun _ => 0, Or.inl rfl, k0.1, by omega, by omega, fun h => by omega, fun N hc => ?_, fun N hm hr => ?_⟩
    · obtain ⟨Y, N3, y1, y2, y3, y4, y5, y6⟩ := cst N hc
      refine ⟨N3, ?_, y3, fun h => by omega⟩
      rw [T] at y2
      rw [if_neg (by omega)]
      refine s_Rule_readFrom hF hg ha ?_
      simp (config := { maxSteps := 1000000 }) (disch := (first | omega | decide | assumption)) only [ltm_s, ok_n, rd_i, rd_j, fd_i, fd_j, wr_i, wr_j, fw_i, fw_j, ci_s, cj_s, cv_s, dv_n, dw_n, rt_1, rt_b, rt_20, rt_21, okb_0, okb_1, okb_b, nar_0, nar_1, nar_b, i_0, i_1, j_0, j_1, i_lit, j_lit, i_n, iI_add, iI_sub, iI_mul, iI_neg, jI_add, jI_sub, jI_mul, jI_neg, sh_1, an_1, xo_1, di_p, dj_p, i_64A, i_64, j_32, lq_ge, lq_lt, lq_le, lq_gt, lq_eq, i_lt, i_le, i_eq, j_eq, iI_A, jI_J, iI_b, iI_v, jI_v, ↓reduceIte, ite_true, ite_false, Int.reduceEq, Int.reduceLT, Int.reduceLE, Int.reduceAdd, Int.reduceSub, Int.reduceMul, Int.reduceNeg, not_true_eq_false, not_false_eq_true, y1.symm, y2, y4]
    · obtain ⟨Y, N1, N2, y1, y2, y3, y4, y5, y6, y7, y8⟩ := mst N hm hr
      have y6' : A N2 219 92 = 1 := by omega
      obtain ⟨N3, w1, w2, w3, w4⟩ := m_number1 hF hg y6'
      have c3 := y4.trans w2
      rw [y5] at w3
      refine ⟨N3, _, ?_, c3.mono rfl, fun z z0 z1 => c3.a rfl, fun _ => tlz_0 ((w2.f (a := 219) (z := 45) rfl).trans y8), fun h => by omega⟩
      rw [if_neg (by omega)]
      refine s_Model_rule hF hg ?_
      have u6 : ¬ r = 6 := by omega
      simp (config := { maxSteps := 1000000 }) (disch := (first | omega | decide | assumption)) only [ltm_s, ok_n, rd_i, rd_j, fd_i, fd_j, wr_i, wr_j, fw_i, fw_j, ci_s, cj_s, cv_s, dv_n, dw_n, rt_1, rt_b, rt_20, rt_21, okb_0, okb_1, okb_b, nar_0, nar_1, nar_b, i_0, i_1, j_0, j_1, i_lit, j_lit, i_n, iI_add, iI_sub, iI_mul, iI_neg, jI_add, jI_sub, jI_mul, jI_neg, sh_1, an_1, xo_1, di_p, dj_p, i_64A, i_64, j_32, lq_ge, lq_lt, lq_le, lq_gt, lq_eq, i_lt, i_le, i_eq, j_eq, iI_A, jI_J, iI_b, iI_v, jI_v, ↓reduceIte, ite_true, ite_false, Int.reduceEq, Int.reduceLT, Int.reduceLE, Int.reduceAdd, Int.reduceSub, Int.reduceMul, Int.reduceNeg, not_true_eq_false, not_false_eq_true, A_Wn, A_WA, A_Wb, A_Ws, A_Wo, A_X, J_W, J_Xn, J_XJ, J_Xs, J_Xo, hr, u6, y1.symm, y2, y3, w1, w4, w3]
  have T1 : mtk x (tx 0) 0 = 1 := by omega
  generalize mtp x (tx 0) 0 = p1 at *
  obtain ⟨⟨p10, p11⟩, -, -⟩ := k0
  by_cases D : 48 ≤ x p1 ∧ x p1 ≤ 57
  · have nv := nmv_r (x := x) (p := p1)
    have nr := nmp_r ht (r := 4) (p := p1) p10 p11
    have cnu : ∀ N : am_M, Ct x n N → ∃ Y N3 N4 N5 : am_M, Y = W_ (W_ N a 1 0) 61 2 0 ∧ F 257 0 [.ref 61, .ref (1000001 + 0)] [] Y = some (some (.int (iI 1)), N3) ∧ F 164 0 [.ref 61] [] N3 = some (some (.int (iI (nmv x 4 p1 0))), N4) ∧ N5 = W_ N4 a 0 (nmv x 4 p1 0) ∧ Ch [a, a + 1, a + 2, a + 3] [(61, 2)] N N5 ∧ A N5 61 2 = nmp x 4 p1 ∧ A N5 a 0 = nmv x 4 p1 0 ∧ A N5 a 1 = 0 ∧ Ct x n N5 := fun N hc => by
      obtain ⟨Y, N3, y1, y2, y3, y4, y5, y6⟩ := cst N hc
      rw [T1] at y2
      obtain ⟨N4, w1, w2, w3⟩ := c_number hF hg ht y6 y4 p10 p11
      rw [if_pos D] at w1
      have c5 : Ch [a, a + 1, a + 2, a + 3] [(61, 2)] N (W_ N4 a 0 (nmv x 4 p1 0)) := (y3.trans (ch1s w2)).wm (Or.inl (by simp only [List.mem_cons, true_or]))
      refine ⟨Y, N3, N4, _, y1, y2, w1, rfl, c5, by rw [A_Wn (Ne.symm n61)]; exact w3, A_Ws (by omega) (by omega), by rw [A_Wo (by omega) (by omega) (by omega), ch1r w2 n61]; exact y5, hc.ch4 a0 c5⟩
    have mnu : ∀ N : am_M, Mt x n N → A N 219 45 = r → ∃ Y N1 N2 N3 : am_M, Y = W_ (W_ N 219 75 0) 219 92 0 ∧ F 181 0 [.ref 219, .int (iI 116), .int (iI 97), .int (iI 107), .int (iI 101)] [] Y = some (none, N1) ∧ F 110 0 [.ref 219, .int (iI 32)] [] N1 = some (none, N2) ∧ F 126 0 [.ref 219] [] N2 = some (some (.int (iI (nmv x 4 p1 0))), N3) ∧ Ch [] [(219, 75), (219, 92)] N N3 ∧ A N3 219 75 = nmp x 4 p1 ∧ A N3 219 92 = 0 ∧ Mt x n N3 ∧ A N3 219 36 = n ∧ A N3 219 45 = r := fun N hm hr => by
      obtain ⟨Y, N1, N2, y1, y2, y3, y4, y5, y6, y7, y8⟩ := mst N hm hr
      obtain ⟨N3, w1, w2, w3, w4⟩ := m_number hF hg ht y7 y5 p10 p11 (by omega)
      rw [if_pos D] at w4
      have c := y4.trans w2
      exact ⟨Y, N1, N2, N3, y1, y2, y3, w1, c, w3, w4, hm.c2 c, (hm.c2 c).1, (c.f (a := 219) (z := 45) rfl).trans hr⟩
    have u6 : ¬ r = 6 := by omega
    generalize nmv x 4 p1 0 = v at *
    generalize nmp x 4 p1 = p2 at *
    have v0 : 0 ≤ v := nv.1
    by_cases E : n ≤ p2
    · refine ⟨1, p2, v, 0, fun _ => 0, fun _ => 0, fun _ => 0, Or.inr rfl, by omega, nv, by omega, fun _ j j0 j1 => by omega, fun N hc => ?_, fun N hm hr => ?_⟩
      · obtain ⟨Y, N3, N4, N5, y1, y2, y3, y4, y5, y6, y7, y8, y9⟩ := cnu N hc
        have ae := c_isAtEnd hF hg ht y9 y6
        rw [bI_t E] at ae
        refine ⟨N5, ?_, y5, fun _ => ⟨y7, y8, fun j j0 j1 => by omega⟩⟩
        rw [if_pos rfl]
        refine s_Rule_readFrom hF hg ha ?_
        simp (config := { maxSteps := 1000000 }) (disch := (first | omega | decide | assumption)) only [ltm_s, ok_n, rd_i, rd_j, fd_i, fd_j, wr_i, wr_j, fw_i, fw_j, ci_s, cj_s, cv_s, dv_n, dw_n, rt_1, rt_b, rt_20, rt_21, okb_0, okb_1, okb_b, nar_0, nar_1, nar_b, i_0, i_1, j_0, j_1, i_lit, j_lit, i_n, iI_add, iI_sub, iI_mul, iI_neg, jI_add, jI_sub, jI_mul, jI_neg, sh_1, an_1, xo_1, di_p, dj_p, i_64A, i_64, j_32, lq_ge, lq_lt, lq_le, lq_gt, lq_eq, i_lt, i_le, i_eq, j_eq, iI_A, jI_J, iI_b, iI_v, jI_v, ↓reduceIte, ite_true, ite_false, Int.reduceEq, Int.reduceLT, Int.reduceLE, Int.reduceAdd, Int.reduceSub, Int.reduceMul, Int.reduceNeg, not_true_eq_false, not_false_eq_true, y1.symm, y2, y3, y4.symm, y7, v0, ae]
      · obtain ⟨Y, N1, N2, N3, y1, y2, y3, y4, y5, y6, y7, y8, y9, y10⟩ := mnu N hm hr
        refine ⟨N3, _, ?_, y5.mono rfl, fun z z0 z1 => y5.a rfl, fun h => by omega, fun _ => ⟨tlz_1 (m := 0) r0 r6 nv.1 nv.2 (by omega) (by omega), fun j j0 j1 => by omega⟩⟩
        rw [if_pos rfl]
        have er : r + 1 - 1 = r := by omega
        refine s_Model_rule hF hg ?_
        simp (config := { maxSteps := 1000000 }) (disch := (first | omega | decide | assumption)) only [ltm_s, ok_n, rd_i, rd_j, fd_i, fd_j, wr_i, wr_j, fw_i, fw_j, ci_s, cj_s, cv_s, dv_n, dw_n, rt_1, rt_b, rt_20, rt_21, okb_0, okb_1, okb_b, nar_0, nar_1, nar_b, i_0, i_1, j_0, j_1, i_lit, j_lit, i_n, iI_add, iI_sub, iI_mul, iI_neg, jI_add, jI_sub, jI_mul, jI_neg, sh_1, an_1, xo_1, di_p, dj_p, i_64A, i_64, j_32, lq_ge, lq_lt, lq_le, lq_gt, lq_eq, i_lt, i_le, i_eq, j_eq, iI_A, jI_J, iI_b, iI_v, jI_v, ↓reduceIte, ite_true, ite_false, Int.reduceEq, Int.reduceLT, Int.reduceLE, Int.reduceAdd, Int.reduceSub, Int.reduceMul, Int.reduceNeg, not_true_eq_false, not_false_eq_true, A_Wn, A_WA, A_Wb, A_Ws, A_Wo, A_X, J_W, J_Xn, J_XJ, J_Xs, J_Xo, hr, u6, y1.symm, y2, y3, y4, y6, y7, y9, y10, E, er]
    have k1 := mt_r ht (cs := tx 1) (p := p2) (tx_n 1 (by decide)) (by omega) (by omega)
    have cif : ∀ N : am_M, Ct x n N → ∃ Y N3 N4 N5 N6 : am_M, Y = W_ (W_ N a 1 0) 61 2 0 ∧ F 257 0 [.ref 61, .ref (1000001 + 0)] [] Y = some (some (.int (iI 1)), N3) ∧ F 164 0 [.ref 61] [] N3 = some (some (.int (iI v)), N4) ∧ N5 = W_ N4 a 0 v ∧ A N5 a 0 = v ∧ F 79 0 [.ref 61] [] N5 = some (some (.int (iI 0)), N5) ∧ F 257 0 [.ref 61, .ref (1000001 + 1)] [] N5 = some (some (.int (iI (mtk x (tx 1) p2))), N6) ∧ Ch [a, a + 1, a + 2, a + 3] [(61, 2)] N N6 ∧ A N6 61 2 = mtp x (tx 1) p2 ∧ A N6 a 0 = v ∧ A N6 a 1 = 0 ∧ Ct x n N6 := fun N hc => by
      obtain ⟨Y, N3, N4, N5, y1, y2, y3, y4, y5, y6, y7, y8, y9⟩ := cnu N hc
      have ae := c_isAtEnd hF hg ht y9 y6
      rw [bI_f E] at ae
      obtain ⟨N6, t1, t2, t3⟩ := c_text hF hg ht (k := 1) (by decide) y9 y6 (by omega) (by omega)
      have c := y5.trans (ch1s t2)
      exact ⟨Y, N3, N4, N5, N6, y1, y2, y3, y4, y7, ae, t1, c, t3, (ch1r t2 n61).trans y7, (ch1r t2 n61).trans y8, hc.ch4 a0 c⟩
    have mif : ∀ N : am_M, Mt x n N → A N 219 45 = r → ∃ Y N1 N2 N3 N4 N5 N6 N7 : am_M, Y = W_ (W_ N 219 75 0) 219 92 0 ∧ F 181 0 [.ref 219, .int (iI 116), .int (iI 97), .int (iI 107), .int (iI 101)] [] Y = some (none, N1) ∧ F 110 0 [.ref 219, .int (iI 32)] [] N1 = some (none, N2) ∧ F 126 0 [.ref 219] [] N2 = some (some (.int (iI v)), N3) ∧ A N3 219 92 = 0 ∧ A N3 219 36 = n ∧ A N3 219 75 = p2 ∧ F 110 0 [.ref 219, .int (iI 32)] [] N3 = some (none, N4) ∧ F 110 0 [.ref 219, .int (iI 105)] [] N4 = some (none, N5) ∧ F 110 0 [.ref 219, .int (iI 102)] [] N5 = some (none, N6) ∧ F 110 0 [.ref 219, .int (iI 32)] [] N6 = some (none, N7) ∧ Ch [] [(219, 75), (219, 92)] N N7 ∧ A N7 219 75 = mtp x (tx 1) p2 ∧ A N7 219 92 = 1 - mtk x (tx 1) p2 ∧ Mt x n N7 ∧ A N7 219 45 = r := fun N hm hr => by
      obtain ⟨Y, N1, N2, N3, y1, y2, y3, y4, y5, y6, y7, y8, y9, y10⟩ := mnu N hm hr
      obtain ⟨N4, b1, b2, b3, b4, b5, b6⟩ := m_eats hF hg ht y8 (c := 32) y6 (by omega) (by omega) y7 (Or.inl rfl) (by omega) (by omega)
      obtain ⟨N5, d1, d2, d3, d4, d5, d6⟩ := m_eats hF hg ht (y8.c2 b2) (c := 105) b3 b5.1 b5.2 b4 b6 (by omega) (by omega)
      obtain ⟨N6, f1, f2, f3, f4, f5, f6⟩ := m_eats hF hg ht ((y8.c2 b2).c2 d2) (c := 102) d3 d5.1 d5.2 d4 d6 (by omega) (by omega)
      obtain ⟨N7, i1, i2, i3, i4, i5, i6⟩ := m_eats hF hg ht (((y8.c2 b2).c2 d2).c2 f2) (c := 32) f3 f5.1 f5.2 f4 f6 (by omega) (by omega)
      have c := y5.trans (b2.trans (d2.trans (f2.trans i2)))
      have ez := et_0 (x := x) (cs := [32] ++ ([105] ++ ([102] ++ [32]))) (p := p2)
      refine ⟨Y, N1, N2, N3, N4, N5, N6, N7, y1, y2, y3, y4, y7, y9, y6, b1, d1, f1, i1, c, ?_, ?_, hm.c2 c, (c.f (a := 219) (z := 45) rfl).trans hr⟩
      · rw [i3, e1, ← ez.1, et_app.1, et_app.1, et_app.1]
      · rw [i4, e1, ← ez.2, et_app.2, et_app.2, et_app.2]
    by_cases I : mtk x (tx 1) p2 = 0
    · refine ⟨0, mtp x (tx 1) p2, 0, 0, fun _ => 0, fun _ => 0, fun _ => 0, Or.inl rfl, k1.1, by omega, by omega, fun h => by omega, fun N hc => ?_, fun N hm hr => ?_⟩
      · obtain ⟨Y, N3, N4, N5, N6, y1, y2, y3, y4, y5, y6, y7, y8, y9, -, -, -⟩ := cif N hc
        rw [I] at y7
        refine ⟨N6, ?_, y8, fun h => by omega⟩
        rw [if_neg (by omega)]
        refine s_Rule_readFrom hF hg ha ?_
        simp (config := { maxSteps := 1000000 }) (disch := (first | omega | decide | assumption)) only [ltm_s, ok_n, rd_i, rd_j, fd_i, fd_j, wr_i, wr_j, fw_i, fw_j, ci_s, cj_s, cv_s, dv_n, dw_n, rt_1, rt_b, rt_20, rt_21, okb_0, okb_1, okb_b, nar_0, nar_1, nar_b, i_0, i_1, j_0, j_1, i_lit, j_lit, i_n, iI_add, iI_sub, iI_mul, iI_neg, jI_add, jI_sub, jI_mul, jI_neg, sh_1, an_1, xo_1, di_p, dj_p, i_64A, i_64, j_32, lq_ge, lq_lt, lq_le, lq_gt, lq_eq, i_lt, i_le, i_eq, j_eq, iI_A, jI_J, iI_b, iI_v, jI_v, ↓reduceIte, ite_true, ite_false, Int.reduceEq, Int.reduceLT, Int.reduceLE, Int.reduceAdd, Int.reduceSub, Int.reduceMul, Int.reduceNeg, not_true_eq_false, not_false_eq_true, y1.symm, y2, y3, y4.symm, y5, v0, y6, y7, y9]
      · obtain ⟨Y, N1, N2, N3, N4, N5, N6, N7, y1, y2, y3, y4, y5, y6, y7, z1, z2, z3, z4, z5, z6, z7, z8, z9⟩ := mif N hm hr
        have z7' : A N7 219 92 = 1 := by omega
        obtain ⟨N', t1, t2, -⟩ := m_tl hF hg (N := N7) (ok := 0) (t := v) (m := 0) r0 r6 nv.1 nv.2 (by omega) (by omega) z9 (by omega) z6 k1.1.1 (by omega) (Or.inl rfl)
        refine ⟨N7, N', ?_, z5.mono rfl, fun z z0 z1 => z5.a rfl, t2, fun h => by omega⟩
        refine s_Model_rule hF hg ?_
        simp (config := { maxSteps := 1000000 }) (disch := (first | omega | decide | assumption)) only [ltm_s, ok_n, rd_i, rd_j, fd_i, fd_j, wr_i, wr_j, fw_i, fw_j, ci_s, cj_s, cv_s, dv_n, dw_n, rt_1, rt_b, rt_20, rt_21, okb_0, okb_1, okb_b, nar_0, nar_1, nar_b, i_0, i_1, j_0, j_1, i_lit, j_lit, i_n, iI_add, iI_sub, iI_mul, iI_neg, jI_add, jI_sub, jI_mul, jI_neg, sh_1, an_1, xo_1, di_p, dj_p, i_64A, i_64, j_32, lq_ge, lq_lt, lq_le, lq_gt, lq_eq, i_lt, i_le, i_eq, j_eq, iI_A, jI_J, iI_b, iI_v, jI_v, ↓reduceIte, ite_true, ite_false, Int.reduceEq, Int.reduceLT, Int.reduceLE, Int.reduceAdd, Int.reduceSub, Int.reduceMul, Int.reduceNeg, not_true_eq_false, not_false_eq_true, hr, u6, y1.symm, y2, y3, y4, y5, y6, y7, E, z1, z2, z3, z4, z7']
        exact t1
    have I1 : mtk x (tx 1) p2 = 1 := by omega
    generalize mtp x (tx 1) p2 = p3 at *
    obtain ⟨ok, q, m, tf, ts, tv, o1, o2, o3, o4, o5, o6⟩ := rl_l hF hg ht ha a0 a1 r0 r6 3 0 p3 (by omega) (by omega) k1.1.1 k1.1.2
    have z0 : ((0 : Nat) : Int) = 0 := rfl
    rw [z0] at o3 o4 o5 o6
    refine ⟨ok, q, v, m, tf, ts, tv, o1, o2, nv, o3, o4, fun N hc => ?_, fun N hm hr => ?_⟩
    · obtain ⟨Y, N3, N4, N5, N6, y1, y2, y3, y4, y5, y6, y7, y8, y9, y10, y11, y12⟩ := cif N hc
      rw [I1] at y7
      obtain ⟨N', w1, w2, w3, w4, w5, w6⟩ := o5 N6 y12 y9 y11
      refine ⟨N', ?_, y8.trans w2, fun hk => ⟨by rw [w3]; exact y10, w4 hk, w6 hk⟩⟩
      refine s_Rule_readFrom hF hg ha ?_
      simp (config := { maxSteps := 1000000 }) (disch := (first | omega | decide | assumption)) only [ltm_s, ok_n, rd_i, rd_j, fd_i, fd_j, wr_i, wr_j, fw_i, fw_j, ci_s, cj_s, cv_s, dv_n, dw_n, rt_1, rt_b, rt_20, rt_21, okb_0, okb_1, okb_b, nar_0, nar_1, nar_b, i_0, i_1, j_0, j_1, i_lit, j_lit, i_n, iI_add, iI_sub, iI_mul, iI_neg, jI_add, jI_sub, jI_mul, jI_neg, sh_1, an_1, xo_1, di_p, dj_p, i_64A, i_64, j_32, lq_ge, lq_lt, lq_le, lq_gt, lq_eq, i_lt, i_le, i_eq, j_eq, iI_A, jI_J, iI_b, iI_v, jI_v, ↓reduceIte, ite_true, ite_false, Int.reduceEq, Int.reduceLT, Int.reduceLE, Int.reduceAdd, Int.reduceSub, Int.reduceMul, Int.reduceNeg, not_true_eq_false, not_false_eq_true, y1.symm, y2, y3, y4.symm, y5, v0, y6, y7]
      exact w1
    · obtain ⟨Y, N1, N2, N3, N4, N5, N6, N7, y1, y2, y3, y4, y5, y6, y7, z1, z2, z3, z4, z5, z6, z7, z8, z9⟩ := mif N hm hr
      have z7' : A N7 219 92 = 0 := by omega
      obtain ⟨N8, w1, w2, w3, w4, w5, w6⟩ := o6 N7 v z8 z6 z7' z9
      obtain ⟨N', t1, t2, t3⟩ := m_tl hF hg (N := N8) (ok := ok) (t := v) (m := m) r0 r6 nv.1 nv.2 (by omega) (by omega) ((w2.f (a := 219) (z := 45) rfl).trans z9) w4 w3 o2.1 (by omega) o1
      refine ⟨N8, N', ?_, (z5.mono rfl).trans w2, fun z z0 z1 => by rw [w5 z z0 (by omega)]; exact z5.a rfl, t2, fun hk => ⟨t3 hk, w6 hk⟩⟩
      have w := w1 _ t1
      refine s_Model_rule hF hg ?_
      simp (config := { maxSteps := 1000000 }) (disch := (first | omega | decide | assumption)) only [ltm_s, ok_n, rd_i, rd_j, fd_i, fd_j, wr_i, wr_j, fw_i, fw_j, ci_s, cj_s, cv_s, dv_n, dw_n, rt_1, rt_b, rt_20, rt_21, okb_0, okb_1, okb_b, nar_0, nar_1, nar_b, i_0, i_1, j_0, j_1, i_lit, j_lit, i_n, iI_add, iI_sub, iI_mul, iI_neg, jI_add, jI_sub, jI_mul, jI_neg, sh_1, an_1, xo_1, di_p, dj_p, i_64A, i_64, j_32, lq_ge, lq_lt, lq_le, lq_gt, lq_eq, i_lt, i_le, i_eq, j_eq, iI_A, jI_J, iI_b, iI_v, jI_v, ↓reduceIte, ite_true, ite_false, Int.reduceEq, Int.reduceLT, Int.reduceLE, Int.reduceAdd, Int.reduceSub, Int.reduceMul, Int.reduceNeg, not_true_eq_false, not_false_eq_true, hr, u6, y1.symm, y2, y3, y4, y5, y6, y7, E, z1, z2, z3, z4, z7']
      exact w
  · refine ⟨0, p1, 0, 0, fun _ => 0, fun _ => 0, fun _ => 0, Or.inl rfl, by omega, by omega, by omega, fun h => by omega, fun N hc => ?_, fun N hm hr => ?_⟩
    · obtain ⟨Y, N3, y1, y2, y3, y4, y5, y6⟩ := cst N hc
      rw [T1] at y2
      obtain ⟨N4, w1, w2, w3⟩ := c_number hF hg ht y6 y4 p10 p11
      rw [if_neg D] at w1
      rw [nmp_n D] at w3
      obtain ⟨N5, e5⟩ : ∃ y : am_M, y = W_ N4 a 0 (-1) := ⟨_, rfl⟩
      have c5 : Ch [a, a + 1, a + 2, a + 3] [(61, 2)] N N5 := by rw [e5]; exact (y3.trans (ch1s w2)).wm (Or.inl (by simp only [List.mem_cons, true_or]))
      have r5 : A N5 a 0 = -1 := by rw [e5]; exact A_Ws (by omega) (by omega)
      have p5 : A N5 61 2 = p1 := by rw [e5, A_Wn (Ne.symm n61)]; exact w3
      refine ⟨N5, ?_, c5, fun h => by omega⟩
      rw [if_neg (by omega)]
      refine s_Rule_readFrom hF hg ha ?_
      simp (config := { maxSteps := 1000000 }) (disch := (first | omega | decide | assumption)) only [ltm_s, ok_n, rd_i, rd_j, fd_i, fd_j, wr_i, wr_j, fw_i, fw_j, ci_s, cj_s, cv_s, dv_n, dw_n, rt_1, rt_b, rt_20, rt_21, okb_0, okb_1, okb_b, nar_0, nar_1, nar_b, i_0, i_1, j_0, j_1, i_lit, j_lit, i_n, iI_add, iI_sub, iI_mul, iI_neg, jI_add, jI_sub, jI_mul, jI_neg, sh_1, an_1, xo_1, di_p, dj_p, i_64A, i_64, j_32, lq_ge, lq_lt, lq_le, lq_gt, lq_eq, i_lt, i_le, i_eq, j_eq, iI_A, jI_J, iI_b, iI_v, jI_v, ↓reduceIte, ite_true, ite_false, Int.reduceEq, Int.reduceLT, Int.reduceLE, Int.reduceAdd, Int.reduceSub, Int.reduceMul, Int.reduceNeg, not_true_eq_false, not_false_eq_true, y1.symm, y2, w1, e5.symm, r5, p5]
    · obtain ⟨Y, N1, N2, y1, y2, y3, y4, y5, y6, y7, y8⟩ := mst N hm hr
      obtain ⟨N3, w1, w2, w3, w4⟩ := m_number hF hg ht y7 y5 p10 p11 (by omega)
      rw [if_neg D] at w4
      rw [nmp_n D] at w3
      have c3 := y4.trans w2
      refine ⟨N3, _, ?_, c3.mono rfl, fun z z0 z1 => c3.a rfl, fun _ => tlz_0 ((w2.f (a := 219) (z := 45) rfl).trans y8), fun h => by omega⟩
      rw [if_neg (by omega)]
      refine s_Model_rule hF hg ?_
      have u6 : ¬ r = 6 := by omega
      simp (config := { maxSteps := 1000000 }) (disch := (first | omega | decide | assumption)) only [ltm_s, ok_n, rd_i, rd_j, fd_i, fd_j, wr_i, wr_j, fw_i, fw_j, ci_s, cj_s, cv_s, dv_n, dw_n, rt_1, rt_b, rt_20, rt_21, okb_0, okb_1, okb_b, nar_0, nar_1, nar_b, i_0, i_1, j_0, j_1, i_lit, j_lit, i_n, iI_add, iI_sub, iI_mul, iI_neg, jI_add, jI_sub, jI_mul, jI_neg, sh_1, an_1, xo_1, di_p, dj_p, i_64A, i_64, j_32, lq_ge, lq_lt, lq_le, lq_gt, lq_eq, i_lt, i_le, i_eq, j_eq, iI_A, jI_J, iI_b, iI_v, jI_v, ↓reduceIte, ite_true, ite_false, Int.reduceEq, Int.reduceLT, Int.reduceLE, Int.reduceAdd, Int.reduceSub, Int.reduceMul, Int.reduceNeg, not_true_eq_false, not_false_eq_true, A_Wn, A_WA, A_Wb, A_Ws, A_Wo, A_X, J_W, J_Xn, J_XJ, J_Xs, J_Xo, hr, u6, y1.symm, y2, y3, w1, w4, w3]
theorem tp_of (h : I12 M) : ∃ x : Int → Int, Tp x (A M 219 36) ∧ Ct x (A M 219 36) M ∧ Mt x (A M 219 36) M := by
  obtain ⟨a1, a2, a3⟩ := h
  refine ⟨fun p => if 0 ≤ p ∧ p < A M 219 36 then A M 246 p else -1, ⟨a1, fun p p0 p1 => ?_, fun p hp => ?_⟩, ⟨a2, fun p p0 p1 => ?_⟩, rfl, fun p p0 p1 => ?_⟩
  · dsimp only
    rw [if_pos ⟨p0, p1⟩]; exact (a3 p p0 p1).1
  · dsimp only
    rw [if_neg (by omega)]
  · dsimp only
    rw [if_pos ⟨p0, p1⟩]; exact (a3 p p0 p1).2
  · dsimp only
    rw [if_pos ⟨p0, p1⟩]
theorem b_rule (hF : F = am_F T0 g) (hg : GG g) (hI : Inv M) :
    ∃ (r : Int) (M1 M2 : am_M), F 274 0 [.ref 0] [] M = some (some (.int (iI r)), M1) ∧ F 235 0 [.ref 219] [] M1 = some (some (.int (iI r)), M2) ∧ Inv M2 := by
  have hI' := hI
  obtain ⟨h1, h2, h3, h4, h5, h6, h7, h8, h9, h10, h11, h12, h13, h14, h15, h16, h17, h18, h19, hm, ht⟩ := hI
  obtain ⟨s1, s2, s3⟩ := h16
  have hn := h12.1
  by_cases q1 : A M 219 45 = 6
  · refine ⟨-4, M, M, ?_, ?_, hI'⟩
    · have u : ¬ A M 219 45 < 6 := by omega
      refine s_RunSayer_rule hF hg ?_
      simp (config := { maxSteps := 1000000 }) (disch := (first | omega | decide | assumption)) only [ltm_s, ok_n, rd_i, rd_j, fd_i, fd_j, wr_i, wr_j, fw_i, fw_j, ci_s, cj_s, cv_s, dv_n, dw_n, rt_1, rt_b, rt_20, rt_21, okb_0, okb_1, okb_b, nar_0, nar_1, nar_b, i_0, i_1, j_0, j_1, i_lit, j_lit, i_n, iI_add, iI_sub, iI_mul, iI_neg, jI_add, jI_sub, jI_mul, jI_neg, sh_1, an_1, xo_1, di_p, dj_p, i_64A, i_64, j_32, lq_ge, lq_lt, lq_le, lq_gt, lq_eq, i_lt, i_le, i_eq, j_eq, iI_A, jI_J, iI_b, iI_v, jI_v, ↓reduceIte, ite_true, ite_false, Int.reduceEq, Int.reduceLT, Int.reduceLE, Int.reduceAdd, Int.reduceSub, Int.reduceMul, Int.reduceNeg, not_true_eq_false, not_false_eq_true, s2, u]
    · refine s_Model_rule hF hg ?_
      simp (config := { maxSteps := 1000000 }) (disch := (first | omega | decide | assumption)) only [ltm_s, ok_n, rd_i, rd_j, fd_i, fd_j, wr_i, wr_j, fw_i, fw_j, ci_s, cj_s, cv_s, dv_n, dw_n, rt_1, rt_b, rt_20, rt_21, okb_0, okb_1, okb_b, nar_0, nar_1, nar_b, i_0, i_1, j_0, j_1, i_lit, j_lit, i_n, iI_add, iI_sub, iI_mul, iI_neg, jI_add, jI_sub, jI_mul, jI_neg, sh_1, an_1, xo_1, di_p, dj_p, i_64A, i_64, j_32, lq_ge, lq_lt, lq_le, lq_gt, lq_eq, i_lt, i_le, i_eq, j_eq, iI_A, jI_J, iI_b, iI_v, jI_v, ↓reduceIte, ite_true, ite_false, Int.reduceEq, Int.reduceLT, Int.reduceLE, Int.reduceAdd, Int.reduceSub, Int.reduceMul, Int.reduceNeg, not_true_eq_false, not_false_eq_true, q1]
  obtain ⟨R, eR⟩ : ∃ R : Int, R = A M 219 45 := ⟨_, rfl⟩
  rw [← eR] at s1 s2 s3 q1
  obtain ⟨a, ea⟩ : ∃ a : Nat, a = 112 + 4 * R.toNat := ⟨_, rfl⟩
  have ha := ru_ok hg (r := R) s1.1 (by omega)
  rw [← ea] at ha
  have a0 : 112 ≤ a := by omega
  have a1 : a + 3 < 137 := by omega
  have hR6 : R < 6 := by omega
  have hRn : (iI R).toNatClampNeg = R.toNat := iI_n (by omega) (by omega)
  obtain ⟨x, tp, hc, hmt⟩ := tp_of h12
  generalize hnn : A M 219 36 = n at tp hc hmt
  obtain ⟨ok, q, t, m, tf, ts, tv, o1, o2, o3, o4, o5, oc, om⟩ := rl_t hF hg tp ha a0 a1 (r := R) s1.1 (by omega)
  obtain ⟨N1, c1, c2, c3⟩ := oc M hc
  -- what stays
  have fin : ∀ M1 N3 M2 : am_M, Ch [a, a + 1, a + 2, a + 3] [(61, 1), (61, 2), (0, 13)] M M1 → A M1 61 1 = 0 → Ch [255] [(219, 75), (219, 92)] M1 N3 → (∀ z : Int, 0 ≤ z → z < 3 * R → A N3 255 z = A M1 255 z) → Ch [253, 254] [(219, 36), (219, 45)] N3 M2 → (∀ z : Int, 0 ≤ z → ¬ z = R → A M2 253 z = A N3 253 z ∧ A M2 254 z = A N3 254 z) → A M2 219 36 = 0 → (Ch (253 :: 254 :: 255 :: List.range' 112 25) [(61, 1), (61, 2), (0, 13), (219, 36), (219, 45), (219, 75), (219, 92)] M M2 ∧ I12 M2) ∧ ∀ r : Int, 0 ≤ r → r < R → B16 M2 r := fun M1 N3 M2 d1 d2 d3 d4 d5 d6 d7 => by
    have w1 : Ch (253 :: 254 :: 255 :: List.range' 112 25) [(61, 1), (61, 2), (0, 13), (219, 36), (219, 45), (219, 75), (219, 92)] M M1 := (d1.sub (W' := 253 :: 254 :: 255 :: List.range' 112 25) (fun b hb => by
      simp only [List.mem_cons, List.not_mem_nil, or_false] at hb
      exact List.mem_cons_of_mem _ (List.mem_cons_of_mem _ (List.mem_cons_of_mem _ (mRg (by omega) (by omega)))))).mono (by rfl)
    have w2 : Ch (253 :: 254 :: 255 :: List.range' 112 25) [(61, 1), (61, 2), (0, 13), (219, 36), (219, 45), (219, 75), (219, 92)] M1 M2 := (d3.mono (by rfl)).trans (d5.mono (by rfl))
    have x3 : Ch [253, 254, 255] [(219, 36), (219, 45), (219, 75), (219, 92)] M1 M2 := (d3.mono rfl).trans (d5.mono rfl)
    refine ⟨⟨w1.trans w2, ⟨by omega, ?_, fun k k0 k1 => by omega⟩⟩, fun r r0 r1 => ?_⟩
    · rw [x3.f (a := 61) (z := 1) rfl, d7]; exact d2
    · have rd : ∀ (b : Nat) (z : Int), 112 ≤ b → b < a → A M2 b z = A M b z := fun b z b0 b1 => by
        have u1 : A M1 b z = A M b z := congrArg Int32.toInt (d1 b z.toNat (by simp only [List.mem_cons, List.not_mem_nil, or_false]; omega) (by simp only [List.mem_cons, Prod.mk.injEq, List.not_mem_nil, or_false]; omega)).1
        have u2 : A M2 b z = A M1 b z := congrArg Int32.toInt (x3 b z.toNat (by simp only [List.mem_cons, List.not_mem_nil, or_false]; omega) (by simp only [List.mem_cons, Prod.mk.injEq, List.not_mem_nil, or_false]; omega)).1
        exact u2.trans u1
      have rm : ∀ (b : Nat) (z : Int), b = 253 ∨ b = 254 ∨ b = 255 → A M1 b z = A M b z := fun b z hb => congrArg Int32.toInt (d1 b z.toNat (by simp only [List.mem_cons, List.not_mem_nil, or_false]; omega) (by simp only [List.mem_cons, Prod.mk.injEq, List.not_mem_nil, or_false]; omega)).1
      have k1 : A M2 253 r = A M 253 r := by rw [(d6 r r0 (by omega)).1, d3.a (a := 253) rfl, rm _ _ (Or.inl rfl)]
      have k2 : A M2 254 r = A M 254 r := by rw [(d6 r r0 (by omega)).2, d3.a (a := 254) rfl, rm _ _ (Or.inr (Or.inl rfl))]
      obtain ⟨y1, y2, y3, y4, y5⟩ := s3 r r0 r1
      unfold B16
      rw [k1, k2, rd _ _ (by omega) (by omega), rd _ _ (by omega) (by omega)]
      refine ⟨y1, y2, y3, y4, fun i i0 i1 => ?_⟩
      obtain ⟨f, s, w, f1, f2, f3, f4, f5, f6, f7⟩ := y5 i i0 i1
      refine ⟨f, s, w, f1, f2, f3, ?_, ?_, ?_, ?_⟩
      · rw [d5.a (a := 255) rfl, d4 _ (by omega) (by omega), rm _ _ (Or.inr (Or.inr rfl))]; exact f4
      · rw [rd _ _ (by omega) (by omega)]; exact f5
      · rw [rd _ _ (by omega) (by omega)]; exact f6
      · rw [rd _ _ (by omega) (by omega)]; exact f7
  have cl : F 78 0 [.ref 61] [] N1 = some (none, W_ N1 61 1 0) := by
    refine s_Tape_clear hF hg ?_
    simp (config := { maxSteps := 1000000 }) (disch := (first | omega | decide | assumption)) only [ltm_s, ok_n, rd_i, rd_j, fd_i, fd_j, wr_i, wr_j, fw_i, fw_j, ci_s, cj_s, cv_s, dv_n, dw_n, rt_1, rt_b, rt_20, rt_21, okb_0, okb_1, okb_b, nar_0, nar_1, nar_b, i_0, i_1, j_0, j_1, i_lit, j_lit, i_n, iI_add, iI_sub, iI_mul, iI_neg, jI_add, jI_sub, jI_mul, jI_neg, sh_1, an_1, xo_1, di_p, dj_p, i_64A, i_64, j_32, lq_ge, lq_lt, lq_le, lq_gt, lq_eq, i_lt, i_le, i_eq, j_eq, iI_A, jI_J, iI_b, iI_v, jI_v, ↓reduceIte, ite_true, ite_false, Int.reduceEq, Int.reduceLT, Int.reduceLE, Int.reduceAdd, Int.reduceSub, Int.reduceMul, Int.reduceNeg, not_true_eq_false, not_false_eq_true]
  obtain ⟨N2, e2⟩ : ∃ y : am_M, y = W_ N1 61 1 0 := ⟨_, rfl⟩
  rw [← e2] at cl
  have c12 : Ch [a, a + 1, a + 2, a + 3] [(61, 1), (61, 2), (0, 13)] M N2 := by
    rw [e2]; exact (c2.mono (by rw [Bool.and_eq_true]; exact ⟨List.all_eq_true.mpr fun b hb => List.elem_iff.mpr hb, rfl⟩)).wm (Or.inr (by decide))
  have r2 : A N2 61 1 = 0 := by rw [e2]; exact A_Ws (by omega) (by omega)
  have rdm : ∀ (X : am_M) (b : Nat) (z : Int), Ch [a, a + 1, a + 2, a + 3] [(61, 1), (61, 2), (0, 13)] M X → 137 ≤ b → A X b z = A M b z := fun X b z c hb => congrArg Int32.toInt (c b z.toNat (by simp only [List.mem_cons, List.not_mem_nil, or_false]; omega) (by simp only [List.mem_cons, Prod.mk.injEq, List.not_mem_nil, or_false]; omega)).1
  have mtX : ∀ X : am_M, Ch [a, a + 1, a + 2, a + 3] [(61, 1), (61, 2), (0, 13)] M X → Mt x n X ∧ A X 219 45 = R := fun X c => ⟨⟨by rw [rdm X _ _ c (by omega)]; exact hmt.1, fun p p0 p1 => by rw [rdm X _ _ c (by omega)]; exact hmt.2 p p0 p1⟩, by rw [rdm X _ _ c (by omega)]; exact eR.symm⟩
  have h13' : A N2 0 13 = R := by
    have : A N2 0 13 = A N1 0 13 := by rw [e2, A_Wn (by omega)]
    rw [this, ← s2]
    exact ch4r c2 (fun h => absurd h.1 (by decide)) (Or.inl (by omega))
  rcases o1 with hk | hk
  · subst hk
    rw [if_neg (by omega)] at c1
    obtain ⟨x1, x2⟩ := mtX N2 c12
    obtain ⟨N3, M2, m1, m2, m3, m4, -⟩ := om N2 x1 x2
    obtain ⟨t1, t2, t3, t4, -⟩ := m4 rfl
    obtain ⟨⟨c, i12⟩, old⟩ := fin N2 N3 M2 c12 r2 m2 m3 t1 t3 t2
    rw [if_neg (by omega)] at m1
    refine ⟨-100 - q, N2, M2, ?_, m1, ⟨c.i1 rfl h1, c.i2 rfl h2, c.i3 rfl h3, c.i4 rfl h4, c.i5 rfl h5, c.i6 rfl h6, c.i7 rfl h7, c.i8 rfl h8, c.i9 rfl h9, c.i10 rfl h10, c.i11 rfl h11, i12, c.i13 rfl h13, c.i14 rfl h14, c.i15 rfl h15, ?_, c.i17 rfl h17, c.i18 rfl h18, c.i19 rfl h19, c.imk rfl hm, c.itd rfl ht⟩⟩
    · have uq : ¬ q < 0 := by omega
      refine s_RunSayer_rule hF hg ?_
      simp (config := { maxSteps := 1000000 }) (disch := (first | omega | decide | assumption)) only [ltm_s, ok_n, rd_i, rd_j, fd_i, fd_j, wr_i, wr_j, fw_i, fw_j, ci_s, cj_s, cv_s, dv_n, dw_n, rt_1, rt_b, rt_20, rt_21, okb_0, okb_1, okb_b, nar_0, nar_1, nar_b, i_0, i_1, j_0, j_1, i_lit, j_lit, i_n, iI_add, iI_sub, iI_mul, iI_neg, jI_add, jI_sub, jI_mul, jI_neg, sh_1, an_1, xo_1, di_p, dj_p, i_64A, i_64, j_32, lq_ge, lq_lt, lq_le, lq_gt, lq_eq, i_lt, i_le, i_eq, j_eq, iI_A, jI_J, iI_b, iI_v, jI_v, ↓reduceIte, ite_true, ite_false, Int.reduceEq, Int.reduceLT, Int.reduceLE, Int.reduceAdd, Int.reduceSub, Int.reduceMul, Int.reduceNeg, not_true_eq_false, not_false_eq_true, s2, hR6, hRn, ea.symm, c1, cl, uq]
    · have e45 : A M2 219 45 = R := by omega
      refine ⟨by rw [e45]; exact s1, ?_, fun r r0 r1 => old r r0 (by omega)⟩
      rw [e45, t1.f (a := 0) (z := 13) rfl, m2.f (a := 0) (z := 13) rfl]; exact h13'
  · subst hk
    rw [if_pos rfl] at c1
    obtain ⟨v1, v2, v3⟩ := c3 rfl
    obtain ⟨M1, e1⟩ : ∃ y : am_M, y = W_ N2 0 13 (R + 1) := ⟨_, rfl⟩
    have c13 : Ch [a, a + 1, a + 2, a + 3] [(61, 1), (61, 2), (0, 13)] M M1 := by
      rw [e1]; exact c12.wm (Or.inr (by decide))
    obtain ⟨x1, x2⟩ := mtX M1 c13
    obtain ⟨N3, M2, m1, m2, m3, -, m4⟩ := om M1 x1 x2
    obtain ⟨⟨t1, t2, t3, t4, t5⟩, t6⟩ := m4 rfl
    obtain ⟨t5, t7⟩ := t5 rfl
    have r1' : A M1 61 1 = 0 := by rw [e1, A_Wn (by omega)]; exact r2
    obtain ⟨⟨c, i12⟩, old⟩ := fin M1 N3 M2 c13 r1' m2 m3 t1 t3 t2
    rw [if_pos rfl] at m1
    refine ⟨R, M1, M2, ?_, m1, ⟨c.i1 rfl h1, c.i2 rfl h2, c.i3 rfl h3, c.i4 rfl h4, c.i5 rfl h5, c.i6 rfl h6, c.i7 rfl h7, c.i8 rfl h8, c.i9 rfl h9, c.i10 rfl h10, c.i11 rfl h11, i12, c.i13 rfl h13, c.i14 rfl h14, c.i15 rfl h15, ?_, c.i17 rfl h17, c.i18 rfl h18, c.i19 rfl h19, c.imk rfl hm, c.itd rfl ht⟩⟩
    · have er : R + 1 - 1 = R := by omega
      have r13 : A M1 0 13 = R + 1 := by rw [e1]; exact A_Ws (by omega) (by omega)
      refine s_RunSayer_rule hF hg ?_
      simp (config := { maxSteps := 1000000 }) (disch := (first | omega | decide | assumption)) only [ltm_s, ok_n, rd_i, rd_j, fd_i, fd_j, wr_i, wr_j, fw_i, fw_j, ci_s, cj_s, cv_s, dv_n, dw_n, rt_1, rt_b, rt_20, rt_21, okb_0, okb_1, okb_b, nar_0, nar_1, nar_b, i_0, i_1, j_0, j_1, i_lit, j_lit, i_n, iI_add, iI_sub, iI_mul, iI_neg, jI_add, jI_sub, jI_mul, jI_neg, sh_1, an_1, xo_1, di_p, dj_p, i_64A, i_64, j_32, lq_ge, lq_lt, lq_le, lq_gt, lq_eq, i_lt, i_le, i_eq, j_eq, iI_A, jI_J, iI_b, iI_v, jI_v, ↓reduceIte, ite_true, ite_false, Int.reduceEq, Int.reduceLT, Int.reduceLE, Int.reduceAdd, Int.reduceSub, Int.reduceMul, Int.reduceNeg, not_true_eq_false, not_false_eq_true, s2, hR6, hRn, ea.symm, c1, cl, h13', e1.symm, r13, er]
    · refine ⟨by rw [t4]; omega, ?_, fun r r0 r1 => ?_⟩
      · rw [t4, t1.f (a := 0) (z := 13) rfl, m2.f (a := 0) (z := 13) rfl, e1]; exact A_Ws (by omega) (by omega)
      · by_cases q : r < R
        · exact old r r0 q
        · have er : r = R := by omega
          subst er
          have rd : ∀ (b : Nat) (z : Int), 112 ≤ b → b < 137 → A M2 b z = A N1 b z := fun b z b0 b1 => by
            have u1 : A M2 b z = A N3 b z := congrArg Int32.toInt (t1 b z.toNat (by simp only [List.mem_cons, List.not_mem_nil, or_false]; omega) (by simp only [List.mem_cons, Prod.mk.injEq, List.not_mem_nil, or_false]; omega)).1
            have u2 : A N3 b z = A M1 b z := congrArg Int32.toInt (m2 b z.toNat (by simp only [List.mem_cons, List.not_mem_nil, or_false]; omega) (by simp only [List.mem_cons, Prod.mk.injEq, List.not_mem_nil, or_false]; omega)).1
            rw [u1, u2, e1, A_Wn (by omega), e2, A_Wn (by omega)]
          unfold B16
          rw [← ea, t5, t7, rd a 0 (by omega) (by omega), rd a 1 (by omega) (by omega), v1, v2]
          refine ⟨o3, rfl, o4, rfl, fun i i0 i1 => ?_⟩
          obtain ⟨z1, z2, z3⟩ := o5 rfl i i0 i1
          obtain ⟨w1, w2, w3⟩ := v3 i i0 i1
          refine ⟨tf i, ts i, tv i, z1, z2, z3, ?_, ?_, ?_, ?_⟩
          · rw [t1.a (a := 255) rfl]; exact t6 i i0 i1
          · rw [rd _ _ (by omega) (by omega)]; exact w1
          · rw [rd _ _ (by omega) (by omega)]; exact w2
          · rw [rd _ _ (by omega) (by omega)]; exact w3
end Ru
