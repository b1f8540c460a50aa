/-! PLAN: the rows, one after the other, by both -/
/-- as I9, but days may be later -/
def I9w (M : am_M) : Prop := (∀ p : Int, 0 ≤ p → p < 4 → 0 ≤ A M 250 p ∧ A M 250 p ≤ 30) ∧ ∀ t : Int, 0 ≤ t → t < 25600 → (0 ≤ A M 251 t ∧ A M 251 t ≤ 6) ∧ 0 ≤ A M 252 t ∧ A M 252 t ≤ 1000
theorem A_tn {M : am_M} {a : Nat} {z : Int} : A M a (z.toNat : Int) = A M a z := by
  unfold A; rw [Int.toNat_natCast]
section Lo
variable {M0 M N M' : am_M} {g : am_G} {F : am_FT}
theorem m_isHeldw (hF : F = am_F T0 g) (hg : GG g) (hA : Ag M0 M) (h9 : I9w M0) {p e f day : Int} (p0 : 0 ≤ p) (p1 : p < 4) (e0 : 0 ≤ e) (e1 : e < 80) (f0 : 0 ≤ f) (f1 : f < 80) (d0 : 0 ≤ day) (d1 : day ≤ 2000) : F 55 0 [.ref 219, .int (iI p), .int (iI e), .int (iI f), .int (iI day)] [] M = some (some (.int (iI (bI (hld M0 p e f day)))), M) := by
  have ht := h9.2 (6400 * p + 80 * e + f) (by omega) (by omega)
  have hk := h9.1 p p0 p1
  refine s_Model_isHeld hF hg ?_
  unfold hld
  by_cases q1 : 0 < A M0 251 (6400 * p + 80 * e + f)
  · have hs := sl_v hk.1 hk.2 (i := A M0 251 (6400 * p + 80 * e + f) - 1) (by omega) (by omega)
    have q1' : ¬ A M0 251 (6400 * p + 80 * e + f) ≤ 0 := by omega
    by_cases q2 : day < A M0 252 (6400 * p + 80 * e + f)
    · rw [bI_f (fun x => by omega)]
      simp (config := { maxSteps := 1000000 }) (disch := (first | omega | decide | assumption)) only [ltm_s, ok_n, rd_i, rd_j, fd_i, fd_j, wr_i, wr_j, fw_i, fw_j, ci_s, cj_s, cv_s, dv_n, dw_n, rt_1, rt_b, rt_20, rt_21, okb_0, okb_1, okb_b, nar_0, nar_1, nar_b, i_0, i_1, j_0, j_1, i_lit, j_lit, i_n, iI_add, iI_sub, iI_mul, iI_neg, jI_add, jI_sub, jI_mul, jI_neg, sh_1, an_1, xo_1, di_p, dj_p, i_64A, i_64, j_32, lq_ge, lq_lt, lq_le, lq_gt, lq_eq, i_lt, i_le, i_eq, j_eq, iI_A, jI_J, iI_b, iI_v, jI_v, ↓reduceIte, ite_true, ite_false, Int.reduceEq, Int.reduceLT, Int.reduceLE, Int.reduceAdd, Int.reduceSub, Int.reduceMul, Int.reduceNeg, not_true_eq_false, not_false_eq_true, agA hA, agJA hA, ag hA, v_nJ, v_nW, v_nD, v_toD, v_px, v_py, v_rg, v_kd, v_ft, v_on, v_bg, v_en, @nJ_ M0, @nW_ M0, @nD_ M0, @toD_ M0, @px_ M0, @py_ M0, @rg_ M0, @kd_ M0, @ft_ M0, @on_ M0, bt_, q1', q2, sl_i]
    · by_cases q3 : A M0 252 (6400 * p + 80 * e + f) + sl (A M0 250 p) (A M0 251 (6400 * p + 80 * e + f) - 1) < day
      · rw [bI_f (fun x => by omega)]
        simp (config := { maxSteps := 1000000 }) (disch := (first | omega | decide | assumption)) only [ltm_s, ok_n, rd_i, rd_j, fd_i, fd_j, wr_i, wr_j, fw_i, fw_j, ci_s, cj_s, cv_s, dv_n, dw_n, rt_1, rt_b, rt_20, rt_21, okb_0, okb_1, okb_b, nar_0, nar_1, nar_b, i_0, i_1, j_0, j_1, i_lit, j_lit, i_n, iI_add, iI_sub, iI_mul, iI_neg, jI_add, jI_sub, jI_mul, jI_neg, sh_1, an_1, xo_1, di_p, dj_p, i_64A, i_64, j_32, lq_ge, lq_lt, lq_le, lq_gt, lq_eq, i_lt, i_le, i_eq, j_eq, iI_A, jI_J, iI_b, iI_v, jI_v, ↓reduceIte, ite_true, ite_false, Int.reduceEq, Int.reduceLT, Int.reduceLE, Int.reduceAdd, Int.reduceSub, Int.reduceMul, Int.reduceNeg, not_true_eq_false, not_false_eq_true, agA hA, agJA hA, ag hA, v_nJ, v_nW, v_nD, v_toD, v_px, v_py, v_rg, v_kd, v_ft, v_on, v_bg, v_en, @nJ_ M0, @nW_ M0, @nD_ M0, @toD_ M0, @px_ M0, @py_ M0, @rg_ M0, @kd_ M0, @ft_ M0, @on_ M0, bt_, q1', q2, sl_i, q3]
      · rw [bI_t ⟨q1, by omega, by omega⟩]
        simp (config := { maxSteps := 1000000 }) (disch := (first | omega | decide | assumption)) only [ltm_s, ok_n, rd_i, rd_j, fd_i, fd_j, wr_i, wr_j, fw_i, fw_j, ci_s, cj_s, cv_s, dv_n, dw_n, rt_1, rt_b, rt_20, rt_21, okb_0, okb_1, okb_b, nar_0, nar_1, nar_b, i_0, i_1, j_0, j_1, i_lit, j_lit, i_n, iI_add, iI_sub, iI_mul, iI_neg, jI_add, jI_sub, jI_mul, jI_neg, sh_1, an_1, xo_1, di_p, dj_p, i_64A, i_64, j_32, lq_ge, lq_lt, lq_le, lq_gt, lq_eq, i_lt, i_le, i_eq, j_eq, iI_A, jI_J, iI_b, iI_v, jI_v, ↓reduceIte, ite_true, ite_false, Int.reduceEq, Int.reduceLT, Int.reduceLE, Int.reduceAdd, Int.reduceSub, Int.reduceMul, Int.reduceNeg, not_true_eq_false, not_false_eq_true, agA hA, agJA hA, ag hA, v_nJ, v_nW, v_nD, v_toD, v_px, v_py, v_rg, v_kd, v_ft, v_on, v_bg, v_en, @nJ_ M0, @nW_ M0, @nD_ M0, @toD_ M0, @px_ M0, @py_ M0, @rg_ M0, @kd_ M0, @ft_ M0, @on_ M0, bt_, q1', q2, sl_i, q3]
  · rw [bI_f (fun x => q1 x.1)]
    have q1' : A M0 251 (6400 * p + 80 * e + f) ≤ 0 := by omega
    simp (config := { maxSteps := 1000000 }) (disch := (first | omega | decide | assumption)) only [ltm_s, ok_n, rd_i, rd_j, fd_i, fd_j, wr_i, wr_j, fw_i, fw_j, ci_s, cj_s, cv_s, dv_n, dw_n, rt_1, rt_b, rt_20, rt_21, okb_0, okb_1, okb_b, nar_0, nar_1, nar_b, i_0, i_1, j_0, j_1, i_lit, j_lit, i_n, iI_add, iI_sub, iI_mul, iI_neg, jI_add, jI_sub, jI_mul, jI_neg, sh_1, an_1, xo_1, di_p, dj_p, i_64A, i_64, j_32, lq_ge, lq_lt, lq_le, lq_gt, lq_eq, i_lt, i_le, i_eq, j_eq, iI_A, jI_J, iI_b, iI_v, jI_v, ↓reduceIte, ite_true, ite_false, Int.reduceEq, Int.reduceLT, Int.reduceLE, Int.reduceAdd, Int.reduceSub, Int.reduceMul, Int.reduceNeg, not_true_eq_false, not_false_eq_true, agA hA, agJA hA, ag hA, v_nJ, v_nW, v_nD, v_toD, v_px, v_py, v_rg, v_kd, v_ft, v_on, v_bg, v_en, @nJ_ M0, @nW_ M0, @nD_ M0, @toD_ M0, @px_ M0, @py_ M0, @rg_ M0, @kd_ M0, @ft_ M0, @on_ M0, bt_, q1']
theorem m_heldOnw_l (hF : F = am_F T0 g) (hg : GG g) (hA : Ag M0 M) (h9 : I9w M0) {p day : Int} (p0 : 0 ≤ p) (p1 : p < 4) (y0 : 0 ≤ day) (y1 : day ≤ 2000) : ∀ n k : Nat, k + n = 6400 → F 114 5 [.ref 219, .int (iI p), .int (iI day), .int (iI (cn (fun t => hl M0 p t day) k)), .int (iI k)] [] M = some (some (.int (iI (cn (fun t => hl M0 p t day) 6400))), M) := by
  intro n
  induction n with
  | zero =>
    intro k hk
    have e : k = 6400 := by omega
    have q : 6400 ≤ (k : Int) := by omega
    have hb := cn_b (C := fun t => hl M0 p t day) k
    refine s_Model_heldOn_5 hF hg ?_
    simp (config := { maxSteps := 1000000 }) (disch := (first | omega | decide | assumption)) only [ltm_s, ok_n, rd_i, rd_j, fd_i, fd_j, wr_i, wr_j, fw_i, fw_j, ci_s, cj_s, cv_s, dv_n, dw_n, rt_1, rt_b, rt_20, rt_21, okb_0, okb_1, okb_b, nar_0, nar_1, nar_b, i_0, i_1, j_0, j_1, i_lit, j_lit, i_n, iI_add, iI_sub, iI_mul, iI_neg, jI_add, jI_sub, jI_mul, jI_neg, sh_1, an_1, xo_1, di_p, dj_p, i_64A, i_64, j_32, lq_ge, lq_lt, lq_le, lq_gt, lq_eq, i_lt, i_le, i_eq, j_eq, iI_A, jI_J, iI_b, iI_v, jI_v, ↓reduceIte, ite_true, ite_false, Int.reduceEq, Int.reduceLT, Int.reduceLE, Int.reduceAdd, Int.reduceSub, Int.reduceMul, Int.reduceNeg, not_true_eq_false, not_false_eq_true, q]
    rw [e]
  | succ n ih =>
    intro k hk
    have q : ¬ 6400 ≤ (k : Int) := by omega
    have hs : (k : Int) + 1 = ((k + 1 : Nat) : Int) := by omega
    have hb := cn_b (C := fun t => hl M0 p t day) k
    have ih' := ih (k + 1) (by omega)
    have e1 : cn (fun t => hl M0 p t day) (k + 1) = cn (fun t => hl M0 p t day) k + bI (hl M0 p k day) := rfl
    rw [e1] at ih'
    have er : A M 251 (6400 * p + k) = A M0 251 (6400 * p + k) := agA hA rfl
    refine s_Model_heldOn_5 hF hg ?_
    by_cases u0 : A M0 251 (6400 * p + k) ≤ 0
    · rw [bI_f (fun x => by unfold hl at x; omega)] at ih'
      simp (config := { maxSteps := 1000000 }) (disch := (first | omega | decide | assumption)) only [ltm_s, ok_n, rd_i, rd_j, fd_i, fd_j, wr_i, wr_j, fw_i, fw_j, ci_s, cj_s, cv_s, dv_n, dw_n, rt_1, rt_b, rt_20, rt_21, okb_0, okb_1, okb_b, nar_0, nar_1, nar_b, i_0, i_1, j_0, j_1, i_lit, j_lit, i_n, iI_add, iI_sub, iI_mul, iI_neg, jI_add, jI_sub, jI_mul, jI_neg, sh_1, an_1, xo_1, di_p, dj_p, i_64A, i_64, j_32, lq_ge, lq_lt, lq_le, lq_gt, lq_eq, i_lt, i_le, i_eq, j_eq, iI_A, jI_J, iI_b, iI_v, jI_v, ↓reduceIte, ite_true, ite_false, Int.reduceEq, Int.reduceLT, Int.reduceLE, Int.reduceAdd, Int.reduceSub, Int.reduceMul, Int.reduceNeg, not_true_eq_false, not_false_eq_true, q, er, u0, hs, ih']
    · have hd : hl M0 p k day ↔ hld M0 p (k / 80) (k - k / 80 * 80) day := by
        rw [← hl_hld, show 80 * ((k : Int) / 80) + (k - k / 80 * 80) = k by omega]
      have hh := m_isHeldw hF hg hA h9 p0 p1 (e := k / 80) (f := k - k / 80 * 80) (day := day) (by omega) (by omega) (by omega) (by omega) y0 y1
      rw [← bI_cg hd] at hh
      by_cases u : hl M0 p k day
      · rw [bI_t u] at hh ih'
        simp (config := { maxSteps := 1000000 }) (disch := (first | omega | decide | assumption)) only [ltm_s, ok_n, rd_i, rd_j, fd_i, fd_j, wr_i, wr_j, fw_i, fw_j, ci_s, cj_s, cv_s, dv_n, dw_n, rt_1, rt_b, rt_20, rt_21, okb_0, okb_1, okb_b, nar_0, nar_1, nar_b, i_0, i_1, j_0, j_1, i_lit, j_lit, i_n, iI_add, iI_sub, iI_mul, iI_neg, jI_add, jI_sub, jI_mul, jI_neg, sh_1, an_1, xo_1, di_p, dj_p, i_64A, i_64, j_32, lq_ge, lq_lt, lq_le, lq_gt, lq_eq, i_lt, i_le, i_eq, j_eq, iI_A, jI_J, iI_b, iI_v, jI_v, ↓reduceIte, ite_true, ite_false, Int.reduceEq, Int.reduceLT, Int.reduceLE, Int.reduceAdd, Int.reduceSub, Int.reduceMul, Int.reduceNeg, not_true_eq_false, not_false_eq_true, q, er, u0, hh, hs, ih']
      · rw [bI_f u] at hh ih'
        simp (config := { maxSteps := 1000000 }) (disch := (first | omega | decide | assumption)) only [ltm_s, ok_n, rd_i, rd_j, fd_i, fd_j, wr_i, wr_j, fw_i, fw_j, ci_s, cj_s, cv_s, dv_n, dw_n, rt_1, rt_b, rt_20, rt_21, okb_0, okb_1, okb_b, nar_0, nar_1, nar_b, i_0, i_1, j_0, j_1, i_lit, j_lit, i_n, iI_add, iI_sub, iI_mul, iI_neg, jI_add, jI_sub, jI_mul, jI_neg, sh_1, an_1, xo_1, di_p, dj_p, i_64A, i_64, j_32, lq_ge, lq_lt, lq_le, lq_gt, lq_eq, i_lt, i_le, i_eq, j_eq, iI_A, jI_J, iI_b, iI_v, jI_v, ↓reduceIte, ite_true, ite_false, Int.reduceEq, Int.reduceLT, Int.reduceLE, Int.reduceAdd, Int.reduceSub, Int.reduceMul, Int.reduceNeg, not_true_eq_false, not_false_eq_true, q, er, u0, hh, hs, ih']
theorem m_heldOnw (hF : F = am_F T0 g) (hg : GG g) (hA : Ag M0 M) (h9 : I9w M0) {p day : Int} (p0 : 0 ≤ p) (p1 : p < 4) (y0 : 0 ≤ day) (y1 : day ≤ 2000) : F 114 0 [.ref 219, .int (iI p), .int (iI day)] [] M = some (some (.int (iI (cn (fun t => hl M0 p t day) 6400))), M) := by
  refine s_Model_heldOn hF hg ?_
  exact m_heldOnw_l hF hg hA h9 p0 p1 y0 y1 6400 0 (by omega)
/-- the class, at work on a plan -/
def Pc (M : am_M) (s m : Int) (N : am_M) : Prop := Ch [58, 59, 60, 218] [(42, 7), (0, 18)] M N ∧ A N 42 7 = m ∧ (∀ r : Int, 0 ≤ r → r < 10 → bt s r = 1 → A N 58 (pcs s r.toNat) = r) ∧ ∀ l r : Int, 0 ≤ l → l < A M 42 2 → 0 ≤ r → r < 10 → bt s r = 1 → (bt (A N 59 l) (pcs s r.toNat) = 1 ↔ ∃ x : Int, 0 ≤ x ∧ x < A M 57 r ∧ A M (47 + 1 * r.toNat) x = l)
/-- the model, at work on a plan -/
def Pm (M : am_M) (p s : Int) (N : am_M) : Prop := Ch [58, 59, 60, 218, 251, 252, 269, 270, 271, 272, 273] [(42, 7), (0, 18), (219, 89)] M N ∧ (∀ z : Int, A N 251 z = A M 251 z ∧ A N 252 z = A M 252 z) ∧ (∀ t : Int, 0 ≤ t → t < 6400 → A N 269 t = A M 251 (6400 * p + t) ∧ A N 270 t = A M 252 (6400 * p + t)) ∧ ∀ r : Int, 0 ≤ r → r < A M 219 37 → bt s r = 1 → pcs s r.toNat < 4 → A N 271 (pcs s r.toNat) = r
theorem ch_pu {p : Int} (h : Ch [58, 59, 60, 218] [(42, 7), (0, 18)] M N) (p0 : 0 ≤ p) (p3 : p < 4) : PuA M N p := by
  refine ⟨h.f (a := 42) (z := 2) rfl, fun z => ?_⟩
  have : p = 0 ∨ p = 1 ∨ p = 2 ∨ p = 3 := by omega
  rcases this with rfl | rfl | rfl | rfl
  · exact ⟨h.a (a := 72) rfl, h.a (a := 73) rfl, h.a (a := 74) rfl⟩
  · exact ⟨h.a (a := 77) rfl, h.a (a := 78) rfl, h.a (a := 79) rfl⟩
  · exact ⟨h.a (a := 82) rfl, h.a (a := 83) rfl, h.a (a := 84) rfl⟩
  · exact ⟨h.a (a := 87) rfl, h.a (a := 88) rfl, h.a (a := 89) rfl⟩
theorem Pc.c60 {s m : Int} {N' : am_M} (h : Pc M s m N) (c : Ch [60, 218] [] N N') : Pc M s m N' := by
  obtain ⟨h1, h2, h3, h4⟩ := h
  refine ⟨h1.trans (c.mono rfl), (c.f (a := 42) (z := 7) rfl).trans h2, fun r r0 r1 rb => (c.a (a := 58) rfl).trans (h3 r r0 r1 rb), fun l r l0 l1 r0 r1 rb => ?_⟩
  rw [c.a (a := 59) rfl]
  exact h4 l r l0 l1 r0 r1 rb
theorem Pm.c272 {p s : Int} {N' : am_M} (h : Pm M p s N) (c : Ch [272, 273] [] N N') : Pm M p s N' := by
  obtain ⟨h1, h2, h3, h4⟩ := h
  refine ⟨h1.trans (c.mono rfl), fun z => ?_, fun t t0 t1 => ?_, fun r r0 r1 rb rp => (c.a (a := 271) rfl).trans (h4 r r0 r1 rb rp)⟩
  · rw [c.a (a := 251) rfl, c.a (a := 252) rfl]; exact h2 z
  · rw [c.a (a := 269) rfl, c.a (a := 270) rfl]; exact h3 t t0 t1
/-- one row: both count the same, and the model lays back -/
theorem pl_row (hF : F = am_F T0 g) (hg : GG g) (h2 : I2 M) (h8 : I8 M) (h9 : I9 M) (h13 : I13 M) (h14 : I14 M) (h15 : I15 M) {p s n day m rows best row : Int} (p0 : 0 ≤ p) (p1 : p < A M 219 41) (hm2 : pcs s (A M 219 37).toNat = m) (m0 : 1 ≤ m) (m4 : m ≤ 4) (n0 : 1 ≤ n) (n4 : n ≤ 4) (y0 : 0 ≤ day) (y1 : day ≤ 2000) (w0 : 0 ≤ row) (w1 : row < 1000) {N1 N2 : am_M} (hc : Pc M s m N1) (hp : Pm M p s N2) :
    ∃ (x : Int) (N1a N2c : am_M), F 36 0 [.ref 42, .int (iI row), .int (iI n)] [] N1 = some (none, N1a) ∧ F 175 0 [.ref 42, .ref (72 + 5 * p.toNat), .int (iI n), .int (iI (toD M)), .int (iI day)] [] N1a = some (some (.int (iI x)), N1a) ∧ (0 ≤ x ∧ x ≤ 6400) ∧ (∀ R : am_R, (if x ≤ best then F 191 151 [.ref 219, .int (iI p), .int (iI n), .int (iI day), .int (iI m), .int (iI rows), .int (iI best), .int (iI (row + 1))] [] N2c else F 191 265 [.ref 219, .int (iI p), .int (iI n), .int (iI day), .int (iI m), .int (iI rows), .int (iI x), .int (iI row), .int (iI 0)] [] N2c) = some R → (-1 ≤ best ∧ best ≤ 6400) → F 191 167 [.ref 219, .int (iI p), .int (iI n), .int (iI day), .int (iI m), .int (iI rows), .int (iI best), .int (iI row), .int (iI row), .int (iI (n - 1))] [] N2 = some R) ∧ Ch [60] [] N1 N1a ∧ Ch [251, 252, 272] [] N2 N2c ∧ Pc M s m N1a ∧ Pm M p s N2c ∧ ∀ j : Int, 0 ≤ j → j < n → (0 ≤ A N1a 60 j ∧ A N1a 60 j < 4) ∧ A N1a 58 (A N1a 60 j) = A N2c 272 j := by
  obtain ⟨c1, c2, c3, c4⟩ := hc
  obtain ⟨u1, u2, u3, u4⟩ := hp
  have h13a := h13.1
  have hpu := h15.1
  have h8a := h8.1
  have p4 : p < 4 := by omega
  obtain ⟨N1a, N2a, d1, d2, d3, d4, d5⟩ := dig hF hg (p := p) (n := n) (day := day) (m := m) (rows := rows) (best := best) (row := row) m0 m4 n0 n4 w0 w1 c2 (N2 := N2)
  have hPc : Pc M s m N1a := Pc.c60 ⟨c1, c2, c3, c4⟩ (d3.mono rfl)
  have hPm : Pm M p s N2a := Pm.c272 ⟨u1, u2, u3, u4⟩ (d4.mono rfl)
  obtain ⟨v1, v2, v3, v4⟩ := hPm
  have pa := ch_pu hPc.1 p0 p4
  have hD : ∀ j : Int, 0 ≤ j → j < n → A N1 58 (A N1a 60 j) = A N2a 272 j ∧ (0 ≤ A N2a 272 j ∧ A N2a 272 j < A M 219 37) ∧ bt s (A N2a 272 j) = 1 ∧ pcs s (A N2a 272 j).toNat = A N1a 60 j := fun j j0 j1 => by
    obtain ⟨dr, de⟩ := d5 j j0 j1
    have e37 : (((A M 219 37).toNat : Nat) : Int) = A M 219 37 := Int.toNat_of_nonneg (by omega)
    have ne := nth_eq (s := s) (m := m) (q := A N1a 60 j) (x := 0) (y := 0) (n := (A M 219 37).toNat) (M := N1) (N := N2) hm2 (by omega) dr.1 dr.2 m4 c3 (fun r r0 r1 rb rp => u4 r r0 (by omega) rb rp)
    obtain ⟨k1, k2, k3, k4, k5⟩ := ne
    have e : A N1 58 (A N1a 60 j) = A N2a 272 j := k1.trans de.symm
    rw [← e]
    exact ⟨rfl, ⟨k2, by omega⟩, k4, k5⟩
  have hK : A N1a (72 + 5 * p.toNat) 0 = A M 250 p := by rw [(pa.2 0).1]; exact h15.2.2.1 p p0 p1
  have k9 := h9.1 p p0 p4
  have e1 : ∀ z, A N1a (72 + 5 * p.toNat + 1) z = A M (72 + 5 * p.toNat + 1) z := fun z => (pa.2 z).2.1
  have e2 : ∀ z, A N1a (72 + 5 * p.toNat + 2) z = A M (72 + 5 * p.toNat + 2) z := fun z => (pa.2 z).2.2
  obtain ⟨l1, l2, l3, l4⟩ := id h14
  have hb := c_heldAfter hF hg (pu_ok hg p0 p4) (N := N1a) (n := n) (first := toD M) (day := day) (K := A M 250 p) (c := A M 42 2) (h := fun l j => ∃ x : Int, 0 ≤ x ∧ x < A M 57 (A N2a 272 j) ∧ A M (47 + 1 * (A N2a 272 j).toNat) x = l) ⟨by omega, n4⟩ pa.1 l1.1 (by omega) hK k9.1 k9.2 (fun l q0 q1 => by
    obtain ⟨x0, x1, x2⟩ := lkt_r l3 q0 q1
    have b := ((h15.2.2.2 p p0 p4).2 (lkt M l) x0 x1).2 (by omega)
    rw [x2, show l + 1 - 1 = l by omega] at b
    have t9 := h9.2 (6400 * p + lkt M l) (by omega) (by omega)
    rw [e1, e2, b.1, b.2]
    omega) ⟨h8a.1, by omega⟩ y0 y1 (fun l i q0 q1 i0 i1 => by
    obtain ⟨f1, f2, f3, f4⟩ := hD i i0 i1
    have dr := (d5 i i0 i1).1
    refine ⟨by omega, ?_⟩
    have h := hPc.2.2.2 l (A N2a 272 i) q0 q1 f2.1 (by omega) f3
    rw [f4] at h
    exact h)
  have e247 : ∀ z, A N2a 247 z = A M 247 z := fun z => v1.a rfl
  have e248 : ∀ z, A N2a 248 z = A M 248 z := fun z => v1.a rfl
  have eR : ∀ r t, inR N2a r t = inR M r t := fun r t => by
    unfold inR lkn
    simp only [e247, e248]
  have e14 : A N2a 219 14 = toD M := v1.f (a := 219) (z := 14) rfl
  have B := fun j (j0 : 0 ≤ j) (j1 : j < n) => h13.2.2 (A N2a 272 j) (hD j j0 j1).2.1.1 (hD j j0 j1).2.1.2
  have h2a := h2.1
  obtain ⟨N2b, b1, b2, b3, b4, b5⟩ := m_row_l hF hg (M := N2a) (p := p) (n := n) (day := day) (m := m) (rows := rows) (best := best) (row := row) (today := toD M) (c := 0) p0 p4 n4 ⟨h8a.1, by omega⟩ e14 (fun j j0 j1 => by have := (hD j j0 j1).2.1; omega) (fun j j0 j1 => by rw [e247]; exact (B j j0 j1).1) (fun j i j0 j1 i0 i1 => by
    rw [e247] at i1
    rw [e248]
    have := ((B j j0 j1).2.2.1 i i0 i1).1
    omega) (fun z z0 z1 => by rw [(v2 z).1]; exact (h9.2 z z0 z1).1) n.toNat (by omega)
  have e251 : ∀ z, A N2a 251 z = A M 251 z := fun z => (v2 z).1
  have e252 : ∀ z, A N2a 252 z = A M 252 z := fun z => (v2 z).2
  simp only [eR, e251, e252] at b4 b5
  have W2b : Ch [58, 59, 60, 218, 251, 252, 269, 270, 271, 272, 273] [(42, 7), (0, 18), (219, 89)] M N2b := v1.trans (b2.mono rfl)
  have e250 : ∀ z, A N2b 250 z = A M 250 z := fun z => W2b.a rfl
  have i9 : I9w N2b := by
    refine ⟨fun q q0 q1 => by rw [e250]; exact h9.1 q q0 q1, fun z z0 z1 => ⟨b3 z z0 z1, ?_⟩⟩
    have t9 := h9.2 z z0 z1
    by_cases q : z < 6400 * p ∨ 6400 * p + 6400 ≤ z
    · rw [(b5 z z0 q).2]; omega
    · have e := (b4 (z - 6400 * p) (by omega) (by omega)).2
      rw [show 6400 * p + (z - 6400 * p) = z by omega] at e
      rw [e]
      exact lsd_r ⟨t9.2.1, by omega⟩ ⟨h8a.1, by omega⟩ (by omega)
  have mh := m_heldOnw hF hg (Ag.refl N2b) i9 (p := p) (day := day) p0 p4 y0 y1
  have re := row_eq h2 h9 h13 h14 h15 (N := N2b) (p := p) (day := day) (first := toD M) (n := n) (d := fun j => A N2a 272 j) p0 p4 (by omega) (fun j j0 j1 => (hD j j0 j1).2.1) (e250 p) b4
  simp only [e1, e2] at hb
  rw [re] at hb
  obtain ⟨x, hx⟩ : ∃ x : Int, x = cn (fun t => hl N2b p t day) 6400 := ⟨_, rfl⟩
  have xr := cn_b (C := fun t => hl N2b p t day) 6400
  rw [← hx] at hb mh xr
  obtain ⟨N2c, r1, r2, r3, r4⟩ := m_lay hF hg (M := N2b) p0 p4
  have b69 : ∀ z, A N2b 269 z = A N2a 269 z := fun z => b2.a rfl
  have b70 : ∀ z, A N2b 270 z = A N2a 270 z := fun z => b2.a rfl
  have zq : ∀ z : Int, 0 ≤ z → A N2c 251 z = A M 251 z ∧ A N2c 252 z = A M 252 z := fun z z0 => by
    by_cases q : z < 6400 * p ∨ 6400 * p + 6400 ≤ z
    · have h := r4 z z0 q
      have h' := b5 z z0 q
      exact ⟨h.1.trans h'.1, h.2.trans h'.2⟩
    · have h := r3 (z - 6400 * p) (by omega) (by omega)
      have h' := v3 (z - 6400 * p) (by omega) (by omega)
      rw [b69, b70] at h
      rw [show 6400 * p + (z - 6400 * p) = z by omega] at h h'
      exact ⟨h.1.trans h'.1, h.2.trans h'.2⟩
  have cbc : Ch [251, 252] [] N2a N2c := b2.trans r2
  refine ⟨x, N1a, N2c, d1, hb, ⟨xr.1, by omega⟩, fun R hR bb => d2 R (b1 R ?_), d3, (d4.mono rfl).trans (cbc.mono rfl), hPc, ⟨W2b.trans (r2.mono rfl), fun z => ?_, fun t t0 t1 => ?_, fun r q0 q1 rb rp => (cbc.a (a := 271) rfl).trans (v4 r q0 q1 rb rp)⟩, fun j j0 j1 => ?_⟩
  · have u5 : n ≤ ((n.toNat : Nat) : Int) := by omega
    refine s_Model_plan_205 hF hg ?_
    by_cases q : x ≤ best
    · rw [if_pos q] at hR
      simp (config := { maxSteps := 1000000 }) (disch := (first | omega | decide | assumption)) only [ltm_s, ok_n, rd_i, rd_j, fd_i, fd_j, wr_i, wr_j, fw_i, fw_j, ci_s, cj_s, cv_s, dv_n, dw_n, rt_1, rt_b, rt_20, rt_21, okb_0, okb_1, okb_b, nar_0, nar_1, nar_b, i_0, i_1, j_0, j_1, i_lit, j_lit, i_n, iI_add, iI_sub, iI_mul, iI_neg, jI_add, jI_sub, jI_mul, jI_neg, sh_1, an_1, xo_1, di_p, dj_p, i_64A, i_64, j_32, lq_ge, lq_lt, lq_le, lq_gt, lq_eq, i_lt, i_le, i_eq, j_eq, iI_A, jI_J, iI_b, iI_v, jI_v, ↓reduceIte, ite_true, ite_false, Int.reduceEq, Int.reduceLT, Int.reduceLE, Int.reduceAdd, Int.reduceSub, Int.reduceMul, Int.reduceNeg, not_true_eq_false, not_false_eq_true, u5, mh, r1, q, hR]
    · rw [if_neg q] at hR
      simp (config := { maxSteps := 1000000 }) (disch := (first | omega | decide | assumption)) only [ltm_s, ok_n, rd_i, rd_j, fd_i, fd_j, wr_i, wr_j, fw_i, fw_j, ci_s, cj_s, cv_s, dv_n, dw_n, rt_1, rt_b, rt_20, rt_21, okb_0, okb_1, okb_b, nar_0, nar_1, nar_b, i_0, i_1, j_0, j_1, i_lit, j_lit, i_n, iI_add, iI_sub, iI_mul, iI_neg, jI_add, jI_sub, jI_mul, jI_neg, sh_1, an_1, xo_1, di_p, dj_p, i_64A, i_64, j_32, lq_ge, lq_lt, lq_le, lq_gt, lq_eq, i_lt, i_le, i_eq, j_eq, iI_A, jI_J, iI_b, iI_v, jI_v, ↓reduceIte, ite_true, ite_false, Int.reduceEq, Int.reduceLT, Int.reduceLE, Int.reduceAdd, Int.reduceSub, Int.reduceMul, Int.reduceNeg, not_true_eq_false, not_false_eq_true, u5, mh, r1, q, hR]
  · have h := zq (z.toNat : Int) (by omega)
    rw [A_tn, A_tn, A_tn, A_tn] at h
    exact h
  · rw [cbc.a (a := 269) rfl, cbc.a (a := 270) rfl]
    exact v3 t t0 t1
  · have dr := (d5 j j0 j1).1
    refine ⟨by omega, ?_⟩
    rw [d3.a (a := 58) rfl, (hD j j0 j1).1, cbc.a (a := 272) rfl]
theorem pl_l (hF : F = am_F T0 g) (hg : GG g) (h2 : I2 M) (h8 : I8 M) (h9 : I9 M) (h13 : I13 M) (h14 : I14 M) (h15 : I15 M) {p s n day m : Int} (p0 : 0 ≤ p) (p1 : p < A M 219 41) (hm2 : pcs s (A M 219 37).toNat = m) (m0 : 1 ≤ m) (m4 : m ≤ 4) (n0 : 1 ≤ n) (n4 : n ≤ 4) (y0 : 0 ≤ day) (y1 : day ≤ 2000) : ∀ (mm k : Nat) (best : Int) (N1 N2 : am_M), (k : Int) + mm = pw m n.toNat → Pc M s m N1 → Pm M p s N2 → ((k = 0 ∧ best = -1) ∨ ((0 ≤ best ∧ best ≤ 6400) ∧ ∀ i : Int, 0 ≤ i → i < n → A N1 218 i = A N2 273 i)) →
    ∃ (r : Int) (N1' N2' : am_M), F 222 33 [.ref 42, .ref (72 + 5 * p.toNat), .ref 218, .int (iI n), .int (iI (toD M)), .int (iI day), .int (iI (pw m n.toNat)), .int (iI best), .int (iI k)] [] N1 = some (some (.int (iI r)), N1') ∧ F 191 151 [.ref 219, .int (iI p), .int (iI n), .int (iI day), .int (iI m), .int (iI (pw m n.toNat)), .int (iI best), .int (iI k)] [] N2 = some (some (.int (iI r)), N2') ∧ Ch [60, 218] [] N1 N1' ∧ Ch [251, 252, 272, 273] [(219, 89)] N2 N2' ∧ (∀ z : Int, A N2' 251 z = A M 251 z ∧ A N2' 252 z = A M 252 z) ∧ A N2' 219 89 = n ∧ ∀ i : Int, 0 ≤ i → i < n → A N1' 218 i = A N2' 273 i := by
  have pwr := pw_r m0 m4 (n := n.toNat) (by omega)
  have hpu := h15.1
  have ha := pu_ok hg p0 (p := p) (by omega)
  intro mm
  induction mm with
  | zero =>
    intro k best N1 N2 hk hc hp hb
    have u : pw m n.toNat ≤ (k : Int) := by omega
    obtain ⟨bb, br⟩ := hb.resolve_left (fun q => by omega)
    refine ⟨best, N1, W_ N2 219 89 n, ?_, ?_, Ch.refl, Ch.refl.wm (Or.inr (by decide)), fun z => ?_, ?_, fun i i0 i1 => ?_⟩
    · refine s_Links_planRides_33 hF hg ha ?_
      simp (config := { maxSteps := 1000000 }) (disch := (first | omega | decide | assumption)) only [ltm_s, ok_n, rd_i, rd_j, fd_i, fd_j, wr_i, wr_j, fw_i, fw_j, ci_s, cj_s, cv_s, dv_n, dw_n, rt_1, rt_b, rt_20, rt_21, okb_0, okb_1, okb_b, nar_0, nar_1, nar_b, i_0, i_1, j_0, j_1, i_lit, j_lit, i_n, iI_add, iI_sub, iI_mul, iI_neg, jI_add, jI_sub, jI_mul, jI_neg, sh_1, an_1, xo_1, di_p, dj_p, i_64A, i_64, j_32, lq_ge, lq_lt, lq_le, lq_gt, lq_eq, i_lt, i_le, i_eq, j_eq, iI_A, jI_J, iI_b, iI_v, jI_v, ↓reduceIte, ite_true, ite_false, Int.reduceEq, Int.reduceLT, Int.reduceLE, Int.reduceAdd, Int.reduceSub, Int.reduceMul, Int.reduceNeg, not_true_eq_false, not_false_eq_true, u]
    · refine s_Model_plan_151 hF hg ?_
      simp (config := { maxSteps := 1000000 }) (disch := (first | omega | decide | assumption)) only [ltm_s, ok_n, rd_i, rd_j, fd_i, fd_j, wr_i, wr_j, fw_i, fw_j, ci_s, cj_s, cv_s, dv_n, dw_n, rt_1, rt_b, rt_20, rt_21, okb_0, okb_1, okb_b, nar_0, nar_1, nar_b, i_0, i_1, j_0, j_1, i_lit, j_lit, i_n, iI_add, iI_sub, iI_mul, iI_neg, jI_add, jI_sub, jI_mul, jI_neg, sh_1, an_1, xo_1, di_p, dj_p, i_64A, i_64, j_32, lq_ge, lq_lt, lq_le, lq_gt, lq_eq, i_lt, i_le, i_eq, j_eq, iI_A, jI_J, iI_b, iI_v, jI_v, ↓reduceIte, ite_true, ite_false, Int.reduceEq, Int.reduceLT, Int.reduceLE, Int.reduceAdd, Int.reduceSub, Int.reduceMul, Int.reduceNeg, not_true_eq_false, not_false_eq_true, u]
    · rw [A_Wn (by decide), A_Wn (by decide)]; exact hp.2.1 z
    · rw [A_Ws (by omega) (by omega)]
    · rw [A_Wn (by decide)]; exact br i i0 i1
  | succ mm ih =>
    intro k best N1 N2 hk hc hp hb
    have u : ¬ pw m n.toNat ≤ (k : Int) := by omega
    have hs : (k : Int) + 1 = ((k + 1 : Nat) : Int) := by omega
    have bb : -1 ≤ best ∧ best ≤ 6400 := by
      rcases hb with ⟨-, hb⟩ | ⟨hb, -⟩ <;> omega
    obtain ⟨x, N1a, N2c, d1, d2, xr, d3, d4, d5, d6, d7, d8⟩ := pl_row hF hg h2 h8 h9 h13 h14 h15 (p := p) (s := s) (n := n) (day := day) (m := m) (rows := pw m n.toNat) (best := best) (row := k) p0 p1 hm2 m0 m4 n0 n4 y0 y1 (by omega) (by omega) hc hp
    by_cases q : x ≤ best
    · obtain ⟨r, N1', N2', q1, q2, q3, q4, q5, q6, q7⟩ := ih (k + 1) best N1a N2c (by omega) d6 d7 (Or.inr ⟨by omega, fun i i0 i1 => by
        rw [d4.a (a := 218) rfl, d5.a (a := 273) rfl]
        exact (hb.resolve_left (fun h => by omega)).2 i i0 i1⟩)
      refine ⟨r, N1', N2', ?_, ?_, (d4.mono rfl).trans q3, (d5.mono rfl).trans q4, q5, q6, q7⟩
      · refine s_Links_planRides_33 hF hg ha ?_
        simp (config := { maxSteps := 1000000 }) (disch := (first | omega | decide | assumption)) only [ltm_s, ok_n, rd_i, rd_j, fd_i, fd_j, wr_i, wr_j, fw_i, fw_j, ci_s, cj_s, cv_s, dv_n, dw_n, rt_1, rt_b, rt_20, rt_21, okb_0, okb_1, okb_b, nar_0, nar_1, nar_b, i_0, i_1, j_0, j_1, i_lit, j_lit, i_n, iI_add, iI_sub, iI_mul, iI_neg, jI_add, jI_sub, jI_mul, jI_neg, sh_1, an_1, xo_1, di_p, dj_p, i_64A, i_64, j_32, lq_ge, lq_lt, lq_le, lq_gt, lq_eq, i_lt, i_le, i_eq, j_eq, iI_A, jI_J, iI_b, iI_v, jI_v, ↓reduceIte, ite_true, ite_false, Int.reduceEq, Int.reduceLT, Int.reduceLE, Int.reduceAdd, Int.reduceSub, Int.reduceMul, Int.reduceNeg, not_true_eq_false, not_false_eq_true, u, d1, d2, q, hs, q1]
      · refine s_Model_plan_151 hF hg ?_
        rw [if_pos q, hs] at d3
        simp (config := { maxSteps := 1000000 }) (disch := (first | omega | decide | assumption)) only [ltm_s, ok_n, rd_i, rd_j, fd_i, fd_j, wr_i, wr_j, fw_i, fw_j, ci_s, cj_s, cv_s, dv_n, dw_n, rt_1, rt_b, rt_20, rt_21, okb_0, okb_1, okb_b, nar_0, nar_1, nar_b, i_0, i_1, j_0, j_1, i_lit, j_lit, i_n, iI_add, iI_sub, iI_mul, iI_neg, jI_add, jI_sub, jI_mul, jI_neg, sh_1, an_1, xo_1, di_p, dj_p, i_64A, i_64, j_32, lq_ge, lq_lt, lq_le, lq_gt, lq_eq, i_lt, i_le, i_eq, j_eq, iI_A, jI_J, iI_b, iI_v, jI_v, ↓reduceIte, ite_true, ite_false, Int.reduceEq, Int.reduceLT, Int.reduceLE, Int.reduceAdd, Int.reduceSub, Int.reduceMul, Int.reduceNeg, not_true_eq_false, not_false_eq_true, u]
        exact d3 _ q2 bb
    · obtain ⟨N1b, w1, w2, w3⟩ := c_put_l hF hg ha (n := n) (first := toD M) (day := day) (rows := pw m n.toNat) (best := x) (row := k) n4 n.toNat 0 N1a (by omega) (fun i i0 i1 => (d8 i i0 i1).1) (fun i i0 i1 => by omega)
      obtain ⟨N2d, z1, z2, z3⟩ := m_put_l hF hg (p := p) (n := n) (day := day) (m := m) (rows := pw m n.toNat) (best := x) (row := k) n4 n.toNat 0 N2c (by omega) (fun i i0 i1 => by omega)
      obtain ⟨r, N1', N2', q1, q2, q3, q4, q5, q6, q7⟩ := ih (k + 1) x N1b N2d (by omega) (d6.c60 (w2.mono rfl)) (d7.c272 (z2.mono rfl)) (Or.inr ⟨xr, fun i i0 i1 => by
        rw [w3 i i0 i1, z3 i i0 i1]
        exact (d8 i i0 i1).2⟩)
      refine ⟨r, N1', N2', ?_, ?_, ((d4.mono rfl).trans (w2.mono rfl)).trans q3, ((d5.mono rfl).trans (z2.mono rfl)).trans q4, q5, q6, q7⟩
      · rw [← hs] at q1
        have w := w1 _ q1
        refine s_Links_planRides_33 hF hg ha ?_
        simp (config := { maxSteps := 1000000 }) (disch := (first | omega | decide | assumption)) only [ltm_s, ok_n, rd_i, rd_j, fd_i, fd_j, wr_i, wr_j, fw_i, fw_j, ci_s, cj_s, cv_s, dv_n, dw_n, rt_1, rt_b, rt_20, rt_21, okb_0, okb_1, okb_b, nar_0, nar_1, nar_b, i_0, i_1, j_0, j_1, i_lit, j_lit, i_n, iI_add, iI_sub, iI_mul, iI_neg, jI_add, jI_sub, jI_mul, jI_neg, sh_1, an_1, xo_1, di_p, dj_p, i_64A, i_64, j_32, lq_ge, lq_lt, lq_le, lq_gt, lq_eq, i_lt, i_le, i_eq, j_eq, iI_A, jI_J, iI_b, iI_v, jI_v, ↓reduceIte, ite_true, ite_false, Int.reduceEq, Int.reduceLT, Int.reduceLE, Int.reduceAdd, Int.reduceSub, Int.reduceMul, Int.reduceNeg, not_true_eq_false, not_false_eq_true, u, d1, d2, q]
        exact w
      · rw [← hs] at q2
        have w := z1 _ q2
        refine s_Model_plan_151 hF hg ?_
        rw [if_neg q] at d3
        simp (config := { maxSteps := 1000000 }) (disch := (first | omega | decide | assumption)) only [ltm_s, ok_n, rd_i, rd_j, fd_i, fd_j, wr_i, wr_j, fw_i, fw_j, ci_s, cj_s, cv_s, dv_n, dw_n, rt_1, rt_b, rt_20, rt_21, okb_0, okb_1, okb_b, nar_0, nar_1, nar_b, i_0, i_1, j_0, j_1, i_lit, j_lit, i_n, iI_add, iI_sub, iI_mul, iI_neg, jI_add, jI_sub, jI_mul, jI_neg, sh_1, an_1, xo_1, di_p, dj_p, i_64A, i_64, j_32, lq_ge, lq_lt, lq_le, lq_gt, lq_eq, i_lt, i_le, i_eq, j_eq, iI_A, jI_J, iI_b, iI_v, jI_v, ↓reduceIte, ite_true, ite_false, Int.reduceEq, Int.reduceLT, Int.reduceLE, Int.reduceAdd, Int.reduceSub, Int.reduceMul, Int.reduceNeg, not_true_eq_false, not_false_eq_true, u]
        exact d3 _ w bb
end Lo
