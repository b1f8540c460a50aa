/-! A SPEECH, read by both -/
def tof (W : Int) : Int := if W = 1818584692 then 0 else if W = 491394656372 then 1 else if W = 418363302244 then 2 else if W = 109330228604025 then -1 else -2
def lrf (W : Int) : Int := if W = 1818584692 then 0 else if W = 491394656372 then 1 else -1
def lds (x : Int → Int) (p : Int) : Prop := (49 ≤ x p ∧ x p ≤ 57) ∧ ¬ (48 ≤ x (p + 1) ∧ x (p + 1) ≤ 57)
theorem cj_in {β : Type} {x : Option am_R} {κ : Int64 → am_M → Option β} {v : Int64} {M : am_M} {r : β} (h : x = some (some (.long v), M)) (h2 : κ v M = some r) : am_cj x κ = some r := by rw [h]; exact h2
section Sx
variable {M N : am_M} {g : am_G} {F : am_FT} {x : Int → Int} {n : Int}
theorem c_turnOf (hF : F = am_F T0 g) (hg : GG g) {W : Int} (hW : j64 W) : F 76 0 [.long (jI W)] [] N = some (some (.int (iI (tof W))), N) := by
  obtain ⟨w1, w2⟩ := hW
  unfold tof
  refine s_Speech_turnOf hF hg ?_
  by_cases q1 : W = 1818584692
  · rw [if_pos q1]
    have q1 := eq_true q1
    simp (config := { maxSteps := 1000000 }) (disch := (first | omega | decide | assumption)) only [ltm_s, ok_n, rd_i, rd_j, fd_i, fd_j, wr_i, wr_j, fw_i, fw_j, ci_s, cj_s, cv_s, dv_n, dw_n, rt_1, rt_b, rt_20, rt_21, okb_0, okb_1, okb_b, nar_0, nar_1, nar_b, i_0, i_1, j_0, j_1, i_lit, j_lit, i_n, iI_add, iI_sub, iI_mul, iI_neg, jI_add, jI_sub, jI_mul, jI_neg, sh_1, an_1, xo_1, di_p, dj_p, i_64A, i_64, j_32, lq_ge, lq_lt, lq_le, lq_gt, lq_eq, i_lt, i_le, i_eq, j_eq, iI_A, jI_J, iI_b, iI_v, jI_v, ↓reduceIte, ite_true, ite_false, Int.reduceEq, Int.reduceLT, Int.reduceLE, Int.reduceAdd, Int.reduceSub, Int.reduceMul, Int.reduceNeg, not_true_eq_false, not_false_eq_true, q1]
  rw [if_neg q1]
  by_cases q2 : W = 491394656372
  · rw [if_pos q2]
    have q2' := eq_true q2
    simp (config := { maxSteps := 1000000 }) (disch := (first | omega | decide | assumption)) only [ltm_s, ok_n, rd_i, rd_j, fd_i, fd_j, wr_i, wr_j, fw_i, fw_j, ci_s, cj_s, cv_s, dv_n, dw_n, rt_1, rt_b, rt_20, rt_21, okb_0, okb_1, okb_b, nar_0, nar_1, nar_b, i_0, i_1, j_0, j_1, i_lit, j_lit, i_n, iI_add, iI_sub, iI_mul, iI_neg, jI_add, jI_sub, jI_mul, jI_neg, sh_1, an_1, xo_1, di_p, dj_p, i_64A, i_64, j_32, lq_ge, lq_lt, lq_le, lq_gt, lq_eq, i_lt, i_le, i_eq, j_eq, iI_A, jI_J, iI_b, iI_v, jI_v, ↓reduceIte, ite_true, ite_false, Int.reduceEq, Int.reduceLT, Int.reduceLE, Int.reduceAdd, Int.reduceSub, Int.reduceMul, Int.reduceNeg, not_true_eq_false, not_false_eq_true, q1, q2']
  rw [if_neg q2]
  by_cases q3 : W = 418363302244
  · rw [if_pos q3]
    have q3' := eq_true q3
    simp (config := { maxSteps := 1000000 }) (disch := (first | omega | decide | assumption)) only [ltm_s, ok_n, rd_i, rd_j, fd_i, fd_j, wr_i, wr_j, fw_i, fw_j, ci_s, cj_s, cv_s, dv_n, dw_n, rt_1, rt_b, rt_20, rt_21, okb_0, okb_1, okb_b, nar_0, nar_1, nar_b, i_0, i_1, j_0, j_1, i_lit, j_lit, i_n, iI_add, iI_sub, iI_mul, iI_neg, jI_add, jI_sub, jI_mul, jI_neg, sh_1, an_1, xo_1, di_p, dj_p, i_64A, i_64, j_32, lq_ge, lq_lt, lq_le, lq_gt, lq_eq, i_lt, i_le, i_eq, j_eq, iI_A, jI_J, iI_b, iI_v, jI_v, ↓reduceIte, ite_true, ite_false, Int.reduceEq, Int.reduceLT, Int.reduceLE, Int.reduceAdd, Int.reduceSub, Int.reduceMul, Int.reduceNeg, not_true_eq_false, not_false_eq_true, q1, q2, q3']
  rw [if_neg q3]
  by_cases q4 : W = 109330228604025
  · rw [if_pos q4]
    have q4' := eq_true q4
    simp (config := { maxSteps := 1000000 }) (disch := (first | omega | decide | assumption)) only [ltm_s, ok_n, rd_i, rd_j, fd_i, fd_j, wr_i, wr_j, fw_i, fw_j, ci_s, cj_s, cv_s, dv_n, dw_n, rt_1, rt_b, rt_20, rt_21, okb_0, okb_1, okb_b, nar_0, nar_1, nar_b, i_0, i_1, j_0, j_1, i_lit, j_lit, i_n, iI_add, iI_sub, iI_mul, iI_neg, jI_add, jI_sub, jI_mul, jI_neg, sh_1, an_1, xo_1, di_p, dj_p, i_64A, i_64, j_32, lq_ge, lq_lt, lq_le, lq_gt, lq_eq, i_lt, i_le, i_eq, j_eq, iI_A, jI_J, iI_b, iI_v, jI_v, ↓reduceIte, ite_true, ite_false, Int.reduceEq, Int.reduceLT, Int.reduceLE, Int.reduceAdd, Int.reduceSub, Int.reduceMul, Int.reduceNeg, not_true_eq_false, not_false_eq_true, q1, q2, q3, q4']
  · rw [if_neg q4]
    simp (config := { maxSteps := 1000000 }) (disch := (first | omega | decide | assumption)) only [ltm_s, ok_n, rd_i, rd_j, fd_i, fd_j, wr_i, wr_j, fw_i, fw_j, ci_s, cj_s, cv_s, dv_n, dw_n, rt_1, rt_b, rt_20, rt_21, okb_0, okb_1, okb_b, nar_0, nar_1, nar_b, i_0, i_1, j_0, j_1, i_lit, j_lit, i_n, iI_add, iI_sub, iI_mul, iI_neg, jI_add, jI_sub, jI_mul, jI_neg, sh_1, an_1, xo_1, di_p, dj_p, i_64A, i_64, j_32, lq_ge, lq_lt, lq_le, lq_gt, lq_eq, i_lt, i_le, i_eq, j_eq, iI_A, jI_J, iI_b, iI_v, jI_v, ↓reduceIte, ite_true, ite_false, Int.reduceEq, Int.reduceLT, Int.reduceLE, Int.reduceAdd, Int.reduceSub, Int.reduceMul, Int.reduceNeg, not_true_eq_false, not_false_eq_true, q1, q2, q3, q4]
theorem m_leftRight (hF : F = am_F T0 g) (hg : GG g) {W : Int} (hW : J N 219 77 = W) : F 188 0 [.ref 219] [] N = some (some (.int (iI (lrf W))), N) := by
  have e1 := m_isSaid hF hg hW (by omega) (by omega) (w_left (N := N) hF hg)
  have e2 := m_isSaid hF hg hW (by omega) (by omega) (w_right (N := N) hF hg)
  unfold lrf
  refine s_Model_leftRight hF hg ?_
  by_cases q1 : W = 1818584692
  · rw [if_pos q1]
    rw [bI_t q1] at e1
    simp (config := { maxSteps := 1000000 }) (disch := (first | omega | decide | assumption)) only [ltm_s, ok_n, rd_i, rd_j, fd_i, fd_j, wr_i, wr_j, fw_i, fw_j, ci_s, cj_s, cv_s, dv_n, dw_n, rt_1, rt_b, rt_20, rt_21, okb_0, okb_1, okb_b, nar_0, nar_1, nar_b, i_0, i_1, j_0, j_1, i_lit, j_lit, i_n, iI_add, iI_sub, iI_mul, iI_neg, jI_add, jI_sub, jI_mul, jI_neg, sh_1, an_1, xo_1, di_p, dj_p, i_64A, i_64, j_32, lq_ge, lq_lt, lq_le, lq_gt, lq_eq, i_lt, i_le, i_eq, j_eq, iI_A, jI_J, iI_b, iI_v, jI_v, ↓reduceIte, ite_true, ite_false, Int.reduceEq, Int.reduceLT, Int.reduceLE, Int.reduceAdd, Int.reduceSub, Int.reduceMul, Int.reduceNeg, not_true_eq_false, not_false_eq_true, e1]
  rw [if_neg q1]
  rw [bI_f q1] at e1
  by_cases q2 : W = 491394656372
  · rw [if_pos q2]
    rw [bI_t q2] at e2
    simp (config := { maxSteps := 1000000 }) (disch := (first | omega | decide | assumption)) only [ltm_s, ok_n, rd_i, rd_j, fd_i, fd_j, wr_i, wr_j, fw_i, fw_j, ci_s, cj_s, cv_s, dv_n, dw_n, rt_1, rt_b, rt_20, rt_21, okb_0, okb_1, okb_b, nar_0, nar_1, nar_b, i_0, i_1, j_0, j_1, i_lit, j_lit, i_n, iI_add, iI_sub, iI_mul, iI_neg, jI_add, jI_sub, jI_mul, jI_neg, sh_1, an_1, xo_1, di_p, dj_p, i_64A, i_64, j_32, lq_ge, lq_lt, lq_le, lq_gt, lq_eq, i_lt, i_le, i_eq, j_eq, iI_A, jI_J, iI_b, iI_v, jI_v, ↓reduceIte, ite_true, ite_false, Int.reduceEq, Int.reduceLT, Int.reduceLE, Int.reduceAdd, Int.reduceSub, Int.reduceMul, Int.reduceNeg, not_true_eq_false, not_false_eq_true, e1, e2]
  · rw [if_neg q2]
    rw [bI_f q2] at e2
    simp (config := { maxSteps := 1000000 }) (disch := (first | omega | decide | assumption)) only [ltm_s, ok_n, rd_i, rd_j, fd_i, fd_j, wr_i, wr_j, fw_i, fw_j, ci_s, cj_s, cv_s, dv_n, dw_n, rt_1, rt_b, rt_20, rt_21, okb_0, okb_1, okb_b, nar_0, nar_1, nar_b, i_0, i_1, j_0, j_1, i_lit, j_lit, i_n, iI_add, iI_sub, iI_mul, iI_neg, jI_add, jI_sub, jI_mul, jI_neg, sh_1, an_1, xo_1, di_p, dj_p, i_64A, i_64, j_32, lq_ge, lq_lt, lq_le, lq_gt, lq_eq, i_lt, i_le, i_eq, j_eq, iI_A, jI_J, iI_b, iI_v, jI_v, ↓reduceIte, ite_true, ite_false, Int.reduceEq, Int.reduceLT, Int.reduceLE, Int.reduceAdd, Int.reduceSub, Int.reduceMul, Int.reduceNeg, not_true_eq_false, not_false_eq_true, e1, e2]
theorem c_lone (hF : F = am_F T0 g) (hg : GG g) (ht : Tp x n) (hc : Ct x n N) {p : Int} (hp : A N 61 2 = p) (p0 : 0 ≤ p) (p1 : p ≤ n) : ∃ (b : Int) (N' : am_M), F 163 0 [.ref 61] [] N = some (some (.int (iI b)), N') ∧ Ch [] [(61, 2)] N N' ∧ (lds x p → b = x p - 48 ∧ A N' 61 2 = p + 1) ∧ (¬ lds x p → b = 0 ∧ A N' 61 2 = p) := by
  have hn := ht.1
  have s1 := c_signAt hF hg ht hc (p := p) (by omega) (by omega)
  have s2 := c_signAt hF hg ht hc (p := p + 1) (by omega) (by omega)
  have r1 := ht.r p
  have r2 := ht.r (p + 1)
  have d1 := c_isDigit hF hg (N := N) (v := x p) (by omega) (by omega)
  have d2 := c_isDigit hF hg (N := N) (v := x (p + 1)) (by omega) (by omega)
  unfold lds
  by_cases q1 : 48 ≤ x p ∧ x p ≤ 57
  · rw [bI_t q1] at d1
    by_cases q2 : x p = 48
    · refine ⟨0, N, ?_, Ch.refl, fun h => by omega, fun _ => ⟨rfl, hp⟩⟩
      have q2' := eq_true q2
      refine s_Tape_takeLoneDigit hF hg ?_
      simp (config := { maxSteps := 1000000 }) (disch := (first | omega | decide | assumption)) only [ltm_s, ok_n, rd_i, rd_j, fd_i, fd_j, wr_i, wr_j, fw_i, fw_j, ci_s, cj_s, cv_s, dv_n, dw_n, rt_1, rt_b, rt_20, rt_21, okb_0, okb_1, okb_b, nar_0, nar_1, nar_b, i_0, i_1, j_0, j_1, i_lit, j_lit, i_n, iI_add, iI_sub, iI_mul, iI_neg, jI_add, jI_sub, jI_mul, jI_neg, sh_1, an_1, xo_1, di_p, dj_p, i_64A, i_64, j_32, lq_ge, lq_lt, lq_le, lq_gt, lq_eq, i_lt, i_le, i_eq, j_eq, iI_A, jI_J, iI_b, iI_v, jI_v, ↓reduceIte, ite_true, ite_false, Int.reduceEq, Int.reduceLT, Int.reduceLE, Int.reduceAdd, Int.reduceSub, Int.reduceMul, Int.reduceNeg, not_true_eq_false, not_false_eq_true, hp, s1, d1, q2']
    · by_cases q3 : 48 ≤ x (p + 1) ∧ x (p + 1) ≤ 57
      · rw [bI_t q3] at d2
        refine ⟨0, N, ?_, Ch.refl, fun h => by omega, fun _ => ⟨rfl, hp⟩⟩
        refine s_Tape_takeLoneDigit hF hg ?_
        simp (config := { maxSteps := 1000000 }) (disch := (first | omega | decide | assumption)) only [ltm_s, ok_n, rd_i, rd_j, fd_i, fd_j, wr_i, wr_j, fw_i, fw_j, ci_s, cj_s, cv_s, dv_n, dw_n, rt_1, rt_b, rt_20, rt_21, okb_0, okb_1, okb_b, nar_0, nar_1, nar_b, i_0, i_1, j_0, j_1, i_lit, j_lit, i_n, iI_add, iI_sub, iI_mul, iI_neg, jI_add, jI_sub, jI_mul, jI_neg, sh_1, an_1, xo_1, di_p, dj_p, i_64A, i_64, j_32, lq_ge, lq_lt, lq_le, lq_gt, lq_eq, i_lt, i_le, i_eq, j_eq, iI_A, jI_J, iI_b, iI_v, jI_v, ↓reduceIte, ite_true, ite_false, Int.reduceEq, Int.reduceLT, Int.reduceLE, Int.reduceAdd, Int.reduceSub, Int.reduceMul, Int.reduceNeg, not_true_eq_false, not_false_eq_true, hp, s1, d1, q2, s2, d2]
      · rw [bI_f q3] at d2
        refine ⟨x p - 48, W_ N 61 2 (p + 1), ?_, Ch.refl.wm (Or.inr (by decide)), fun _ => ⟨rfl, A_Ws (by omega) (by omega)⟩, fun h => by omega⟩
        refine s_Tape_takeLoneDigit hF hg ?_
        simp (config := { maxSteps := 1000000 }) (disch := (first | omega | decide | assumption)) only [ltm_s, ok_n, rd_i, rd_j, fd_i, fd_j, wr_i, wr_j, fw_i, fw_j, ci_s, cj_s, cv_s, dv_n, dw_n, rt_1, rt_b, rt_20, rt_21, okb_0, okb_1, okb_b, nar_0, nar_1, nar_b, i_0, i_1, j_0, j_1, i_lit, j_lit, i_n, iI_add, iI_sub, iI_mul, iI_neg, jI_add, jI_sub, jI_mul, jI_neg, sh_1, an_1, xo_1, di_p, dj_p, i_64A, i_64, j_32, lq_ge, lq_lt, lq_le, lq_gt, lq_eq, i_lt, i_le, i_eq, j_eq, iI_A, jI_J, iI_b, iI_v, jI_v, ↓reduceIte, ite_true, ite_false, Int.reduceEq, Int.reduceLT, Int.reduceLE, Int.reduceAdd, Int.reduceSub, Int.reduceMul, Int.reduceNeg, not_true_eq_false, not_false_eq_true, hp, s1, d1, q2, s2, d2]
  · rw [bI_f q1] at d1
    refine ⟨0, N, ?_, Ch.refl, fun h => by omega, fun _ => ⟨rfl, hp⟩⟩
    refine s_Tape_takeLoneDigit hF hg ?_
    simp (config := { maxSteps := 1000000 }) (disch := (first | omega | decide | assumption)) only [ltm_s, ok_n, rd_i, rd_j, fd_i, fd_j, wr_i, wr_j, fw_i, fw_j, ci_s, cj_s, cv_s, dv_n, dw_n, rt_1, rt_b, rt_20, rt_21, okb_0, okb_1, okb_b, nar_0, nar_1, nar_b, i_0, i_1, j_0, j_1, i_lit, j_lit, i_n, iI_add, iI_sub, iI_mul, iI_neg, jI_add, jI_sub, jI_mul, jI_neg, sh_1, an_1, xo_1, di_p, dj_p, i_64A, i_64, j_32, lq_ge, lq_lt, lq_le, lq_gt, lq_eq, i_lt, i_le, i_eq, j_eq, iI_A, jI_J, iI_b, iI_v, jI_v, ↓reduceIte, ite_true, ite_false, Int.reduceEq, Int.reduceLT, Int.reduceLE, Int.reduceAdd, Int.reduceSub, Int.reduceMul, Int.reduceNeg, not_true_eq_false, not_false_eq_true, hp, s1, d1]
-- the name, and what is kept
theorem c_nm (hF : F = am_F T0 g) (hg : GG g) (ht : Tp x n) (hc : Ct x n N) {a q p W i : Int} (h2 : A N 61 2 = a) (h3 : A N 63 2 = i) (i0 : 0 ≤ i) (i1 : i < 20) (a0 : 0 ≤ a) (s : Skp x a q) (q1 : q ≤ n) (wd : Wrd x q p W) (p1 : p ≤ n) : ∃ N2 N3 : am_M, F 162 0 [.ref 61] [] N = some (none, N2) ∧ A N2 61 2 = q ∧ F 165 0 [.ref 61] [] N2 = some (some (.long (jI W)), N3) ∧ A N3 63 2 = i ∧ Ch [] [(61, 2)] N N3 ∧ ∀ h : Int, 0 ≤ h → h ≤ 11 → ∃ Y1 Y2 N4 : am_M, Y1 = W_ N3 64 i h ∧ A Y1 63 2 = i ∧ Y2 = X_ Y1 65 i W ∧ A Y2 63 2 = i ∧ N4 = W_ Y2 63 2 (i + 1) ∧ Ch [64, 65] [(61, 2), (63, 2)] N N4 ∧ A N4 63 2 = i + 1 ∧ A N4 64 i = h ∧ J N4 65 i = W ∧ A N4 61 2 = p ∧ ∀ j : Int, 0 ≤ j → j < i → A N4 64 j = A N 64 j ∧ J N4 65 j = J N 65 j := by
  have hn := ht.1
  have s1 := s.1
  have wr := wd.r
  obtain ⟨wr1, wr2⟩ := wr
  obtain ⟨N2, t1, t2, t3⟩ := c_skp hF hg ht hc h2 a0 s q1
  obtain ⟨N3, u1, u2, u3⟩ := c_word hF hg ht (hc.ch (t2.mono rfl)) t3 (by omega) wd p1
  have c := t2.trans u2
  have f3 : A N3 63 2 = i := (c.f (a := 63) (z := 2) rfl).trans h3
  refine ⟨N2, N3, t1, t3, u1, f3, c, fun h h0 h1 => ?_⟩
  obtain ⟨N4, e⟩ : ∃ y : am_M, y = W_ (X_ (W_ N3 64 i h) 65 i W) 63 2 (i + 1) := ⟨_, rfl⟩
  have g1 : A (W_ N3 64 i h) 63 2 = i := by rw [A_Wn (by decide)]; exact f3
  refine ⟨_, _, N4, rfl, g1, rfl, by rw [A_X]; exact g1, e, ?_⟩
  have cW : Ch [64, 65] [(61, 2), (63, 2)] N N4 := by
    rw [e]; exact (((c.mono rfl).wm (Or.inl (by decide))).xm (Or.inl (by decide))).wm (Or.inr (by decide))
  refine ⟨cW, ?_, ?_, ?_, ?_, fun j j0 j1 => ⟨?_, ?_⟩⟩
  · rw [e]; exact A_Ws (by omega) (by omega)
  · rw [e, A_Wn (by decide), A_X]; exact A_Ws (by omega) (by omega)
  · rw [e, J_W]; exact J_Xs wr1 wr2
  · rw [e, A_Wn (by decide), A_X, A_Wn (by decide)]; exact u3
  · rw [e, A_Wn (by decide), A_X, A_Wo (by omega) (by omega) (by omega)]; exact c.a rfl
  · rw [e, J_W, J_Xo (by omega) (by omega) (by omega), J_W]; exact c.j rfl rfl
theorem m_nm (hF : F = am_F T0 g) (hg : GG g) (ht : Tp x n) (hm : Mt x n N) {a q p W i : Int} (h2 : A N 219 75 = a) (h3 : A N 219 78 = i) (i0 : 0 ≤ i) (i1 : i < 20) (a0 : 0 ≤ a) (s : Skp x a q) (q1 : q ≤ n) (wd : Wrd x q p W) (p1 : p ≤ n) : ∃ N3 : am_M, F 134 0 [.ref 219] [] N = some (none, N3) ∧ A N3 219 76 = q ∧ J N3 219 77 = W ∧ A N3 219 78 = i ∧ Ch [] [(219, 75), (219, 76), (219, 77)] N N3 ∧ ∀ h : Int, 0 ≤ h → h ≤ 11 → ∃ Y1 Y2 N4 : am_M, Y1 = W_ N3 266 i h ∧ A Y1 219 78 = i ∧ J Y1 219 77 = W ∧ Y2 = X_ Y1 267 i W ∧ A Y2 219 78 = i ∧ N4 = W_ Y2 219 78 (i + 1) ∧ Ch [266, 267] [(219, 75), (219, 76), (219, 77), (219, 78)] N N4 ∧ A N4 219 78 = i + 1 ∧ A N4 266 i = h ∧ J N4 267 i = W ∧ A N4 219 75 = p ∧ ∀ j : Int, 0 ≤ j → j < i → A N4 266 j = A N 266 j ∧ J N4 267 j = J N 267 j := by
  have hn := ht.1
  have wr := wd.r
  obtain ⟨wr1, wr2⟩ := wr
  obtain ⟨N3, t1, c, t3, t4, t5⟩ := m_reads hF hg ht hm h2 a0 s q1 wd p1
  have f3 : A N3 219 78 = i := (c.f (a := 219) (z := 78) rfl).trans h3
  refine ⟨N3, t1, t4, t5, f3, c, fun h h0 h1 => ?_⟩
  obtain ⟨N4, e⟩ : ∃ y : am_M, y = W_ (X_ (W_ N3 266 i h) 267 i W) 219 78 (i + 1) := ⟨_, rfl⟩
  have g1 : A (W_ N3 266 i h) 219 78 = i := by rw [A_Wn (by decide)]; exact f3
  have g2 : J (W_ N3 266 i h) 219 77 = W := by rw [J_W]; exact t5
  refine ⟨_, _, N4, rfl, g1, g2, rfl, by rw [A_X]; exact g1, e, ?_⟩
  have cW : Ch [266, 267] [(219, 75), (219, 76), (219, 77), (219, 78)] N N4 := by
    rw [e]; exact (((c.mono rfl).wm (Or.inl (by decide))).xm (Or.inl (by decide))).wm (Or.inr (by decide))
  refine ⟨cW, ?_, ?_, ?_, ?_, fun j j0 j1 => ⟨?_, ?_⟩⟩
  · rw [e]; exact A_Ws (by omega) (by omega)
  · rw [e, A_Wn (by decide), A_X]; exact A_Ws (by omega) (by omega)
  · rw [e, J_W]; exact J_Xs wr1 wr2
  · rw [e, A_Wo (by omega) (by omega) (by omega), A_X, A_Wn (by decide)]; exact t3
  · rw [e, A_Wn (by decide), A_X, A_Wo (by omega) (by omega) (by omega)]; exact c.a rfl
  · rw [e, J_W, J_Xo (by omega) (by omega) (by omega), J_W]; exact c.j rfl rfl
/-- the model's last steps: the name, and what is kept -/
def trT (F : am_FT) (h : Int32) (M : am_M) : Option am_R :=
  am_cv (F 134 0 [.ref 219] [] M) fun M3 =>
  if (lg_cmp ((fJ M3 219 77)) 0) = 0 then
    am_rt 2 0 M3
  else
    am_ok 20 ((fI M3 219 78)) <|
    am_lt (wI M3 266 ((fI M3 219 78)).toNatClampNeg h) fun M4 =>
    am_ok 20 ((fI M4 219 78)) <|
    am_lt (wJ M4 267 ((fI M4 219 78)).toNatClampNeg ((fJ M4 219 77))) fun M5 =>
    am_lt (fW M5 219 78 (((fI M5 219 78) + 1))) fun M6 =>
    am_rt 2 1 M6
theorem m_trT (hF : F = am_F T0 g) (hg : GG g) (ht : Tp x n) (hm : Mt x n N) {a q p W i h : Int} (h2 : A N 219 75 = a) (h3 : A N 219 78 = i) (i0 : 0 ≤ i) (i1 : i < 20) (a0 : 0 ≤ a) (s : Skp x a q) (q1 : q ≤ n) (wd : Wrd x q p W) (p1 : p ≤ n) (h0 : 0 ≤ h) (h11 : h ≤ 11) : ∃ N' : am_M, trT F (iI h) N = some (some (.int (iI (if W = 0 then 0 else 1))), N') ∧ Ch [266, 267] [(219, 75), (219, 76), (219, 77), (219, 78)] N N' ∧ (W = 0 → A N' 219 76 = q) ∧ (¬ W = 0 → A N' 219 78 = i + 1 ∧ A N' 266 i = h ∧ J N' 267 i = W ∧ A N' 219 75 = p ∧ ∀ j : Int, 0 ≤ j → j < i → A N' 266 j = A N 266 j ∧ J N' 267 j = J N 267 j) := by
  have hn := ht.1
  have wr := wd.r
  obtain ⟨wr1, wr2⟩ := wr
  obtain ⟨N3, t1, t2, t3, t4, t5, t6⟩ := m_nm hF hg ht hm h2 h3 i0 i1 a0 s q1 wd p1
  unfold trT
  by_cases w0 : W = 0
  · refine ⟨N3, ?_, t5.mono rfl, fun _ => t2, fun h => absurd w0 h⟩
    rw [if_pos w0]
    have w0 := eq_true w0
    simp (config := { maxSteps := 1000000 }) (disch := (first | omega | decide | assumption)) only [ltm_s, ok_n, rd_i, rd_j, fd_i, fd_j, wr_i, wr_j, fw_i, fw_j, ci_s, cj_s, cv_s, dv_n, dw_n, rt_1, rt_b, rt_20, rt_21, okb_0, okb_1, okb_b, nar_0, nar_1, nar_b, i_0, i_1, j_0, j_1, i_lit, j_lit, i_n, iI_add, iI_sub, iI_mul, iI_neg, jI_add, jI_sub, jI_mul, jI_neg, sh_1, an_1, xo_1, di_p, dj_p, i_64A, i_64, j_32, lq_ge, lq_lt, lq_le, lq_gt, lq_eq, i_lt, i_le, i_eq, j_eq, iI_A, jI_J, iI_b, iI_v, jI_v, ↓reduceIte, ite_true, ite_false, Int.reduceEq, Int.reduceLT, Int.reduceLE, Int.reduceAdd, Int.reduceSub, Int.reduceMul, Int.reduceNeg, not_true_eq_false, not_false_eq_true, t1, t3, w0]
  · obtain ⟨Y1, Y2, N4, e1, e2, e3, e4, e5, e6, v1, v2⟩ := t6 h h0 h11
    refine ⟨N4, ?_, v1, fun h => absurd h w0, fun _ => v2⟩
    rw [if_neg w0]
    simp (config := { maxSteps := 1000000 }) (disch := (first | omega | decide | assumption)) only [ltm_s, ok_n, rd_i, rd_j, fd_i, fd_j, wr_i, wr_j, fw_i, fw_j, ci_s, cj_s, cv_s, dv_n, dw_n, rt_1, rt_b, rt_20, rt_21, okb_0, okb_1, okb_b, nar_0, nar_1, nar_b, i_0, i_1, j_0, j_1, i_lit, j_lit, i_n, iI_add, iI_sub, iI_mul, iI_neg, jI_add, jI_sub, jI_mul, jI_neg, sh_1, an_1, xo_1, di_p, dj_p, i_64A, i_64, j_32, lq_ge, lq_lt, lq_le, lq_gt, lq_eq, i_lt, i_le, i_eq, j_eq, iI_A, jI_J, iI_b, iI_v, jI_v, ↓reduceIte, ite_true, ite_false, Int.reduceEq, Int.reduceLT, Int.reduceLE, Int.reduceAdd, Int.reduceSub, Int.reduceMul, Int.reduceNeg, not_true_eq_false, not_false_eq_true, t1, t3, w0, t4, e1.symm, e2, e3, e4.symm, e5, e6.symm]
theorem tr_eqL : (iI (-1) : Int32) = -1 := by decide
theorem tr_ne0 : ¬ (iI 0 : Int32) = -1 := by decide
theorem tr_ne1 : ¬ (iI 1 : Int32) = -1 := by decide
theorem tr_ne2 : ¬ (2 : Int32) = -1 := by decide
theorem tr_n10 : ¬ (iI 1 : Int32) = 0 := by decide
theorem tr_e00 : (iI 0 : Int32) = 0 := rfl
-- one turn
theorem sp_tn (hF : F = am_F T0 g) (hg : GG g) (ht : Tp x n) {q p W i : Int} (i0 : 0 ≤ i) (i1 : i < 20) (q0 : 0 ≤ q) (q1 : q ≤ n) (p0 : 0 ≤ p) (p1 : p ≤ n) (hW : j64 W) : ∃ ok ft h w e : Int, (ok = 0 ∨ ok = 1) ∧ (0 ≤ ft ∧ ft ≤ n) ∧ (ok = 1 → (0 ≤ h ∧ h ≤ 11) ∧ j64 w ∧ ¬ w = 0 ∧ 0 ≤ e ∧ e ≤ n) ∧
    (∀ N : am_M, Ct x n N → A N 61 2 = p → A N 63 2 = i → ∃ N' : am_M, F 215 0 [.ref 63, .ref 61, .long (jI W), .int (iI q)] [] N = some (some (.int (iI (if ok = 1 then -1 else ft))), N') ∧ Ch [64, 65] [(61, 2), (63, 2)] N N' ∧ (ok = 1 → A N' 63 2 = i + 1 ∧ A N' 64 i = h ∧ J N' 65 i = w ∧ A N' 61 2 = e ∧ ∀ j : Int, 0 ≤ j → j < i → A N' 64 j = A N 64 j ∧ J N' 65 j = J N 65 j)) ∧
    (∀ N : am_M, Mt x n N → A N 219 75 = p → A N 219 76 = q → J N 219 77 = W → A N 219 78 = i → ∃ N' : am_M, F 227 0 [.ref 219] [] N = some (some (.int (iI ok)), N') ∧ Ch [266, 267] [(219, 75), (219, 76), (219, 77), (219, 78)] N N' ∧ (ok = 0 → A N' 219 76 = ft) ∧ (ok = 1 → A N' 219 78 = i + 1 ∧ A N' 266 i = h ∧ J N' 267 i = w ∧ A N' 219 75 = e ∧ ∀ j : Int, 0 ≤ j → j < i → A N' 266 j = A N 266 j ∧ J N' 267 j = J N 267 j)) := by
  have hn := ht.1
  obtain ⟨w1, w2⟩ := hW
  have ct : ∀ N : am_M, F 76 0 [.long (jI W)] [] N = some (some (.int (iI (tof W))), N) := fun N => c_turnOf hF hg ⟨w1, w2⟩
  have ml : ∀ N : am_M, J N 219 77 = W → F 188 0 [.ref 219] [] N = some (some (.int (iI (lrf W))), N) := fun N h => m_leftRight hF hg h
  have ma : ∀ N : am_M, J N 219 77 = W → F 120 0 [.ref 219, .int (iI 97), .int (iI 104), .int (iI 101), .int (iI 97), .int (iI 100)] [] N = some (some (.int (iI (bI (W = 418363302244)))), N) := fun N h => m_isSaid hF hg h (by omega) (by omega) (w_ahead hF hg)
  have mc : ∀ N : am_M, F 65 0 [.int (iI 99), .int (iI 111), .int (iI 109), .int (iI 112), .int (iI 108)] [] N = some (some (.long (jI 427071205484)), N) := fun N => w_compl hF hg
  have e8 := sg8_ (W := 427071205484) (b := 121)
  rw [w_comply] at e8
  unfold tof at ct
  unfold lrf at ml
  obtain ⟨a1, s1, z1⟩ := Skp.ex ht (n - p).toNat p (by omega) p0
  have s1' := s1.1
  by_cases k3 : W = 1818584692 ∨ W = 491394656372 ∨ W = 418363302244
  · -- left, right, ahead
    obtain ⟨e, w, s2, z2⟩ := Wrd.ex ht (p := a1) (by omega) z1
    have s2' := s2.1
    have wr := s2.r
    obtain ⟨wr1, wr2⟩ := wr
    obtain ⟨h, hh⟩ : ∃ h : Int, h = (if W = 1818584692 then 0 else if W = 491394656372 then 1 else 2) := ⟨_, rfl⟩
    have h02 : 0 ≤ h ∧ h ≤ 2 := by rw [hh]; repeat' split <;> omega
    have ct' : ∀ N : am_M, F 76 0 [.long (jI W)] [] N = some (some (.int (iI h)), N) := fun N => by
      rw [ct N, hh]
      rcases k3 with k | k | k <;> subst k <;> rfl
    have ml' : ∀ N : am_M, J N 219 77 = W → F 188 0 [.ref 219] [] N = some (some (.int (iI (if h = 2 then -1 else h))), N) := fun N hw => by
      rw [ml N hw, hh]
      rcases k3 with k | k | k <;> subst k <;> rfl
    have go : ∀ N : am_M, J N 219 77 = W → ∀ R : am_R, trT F (iI h) N = some R → F 227 0 [.ref 219] [] N = some R := fun N hw R hR => by
      refine s_Model_turnRead hF hg ?_
      rcases k3 with k | k | k
      · have l := ml' N hw
        rw [k, if_pos rfl] at hh
        rw [hh] at l hR
        rw [if_neg (by decide)] at l
        refine ci_in l ?_
        rw [if_neg tr_ne0, if_neg tr_ne0]
        exact hR
      · have l := ml' N hw
        rw [k, if_neg (by decide), if_pos rfl] at hh
        rw [hh] at l hR
        rw [if_neg (by decide)] at l
        refine ci_in l ?_
        rw [if_neg tr_ne1, if_neg tr_ne1]
        exact hR
      · have l := ml' N hw
        have m2 := ma N hw
        rw [bI_t k] at m2
        rw [k, if_neg (by decide), if_neg (by decide)] at hh
        rw [hh] at l hR
        rw [if_pos rfl] at l
        refine ci_in l ?_
        rw [if_pos tr_eqL]
        refine ci_in m2 ?_
        rw [if_neg tr_n10, if_neg tr_ne2]
        exact hR
    have hm1 : ¬ h = -1 := by omega
    have hm2 : ¬ h = -2 := by omega
    by_cases w0 : w = 0
    · refine ⟨0, a1, 0, 0, 0, Or.inl rfl, by omega, fun h => by omega, fun N hc hp hi => ?_, fun N hm hp hq hJ hi => ?_⟩
      · obtain ⟨N2, N3, t1, t2, t3, t4, t5, t6⟩ := c_nm hF hg ht hc hp hi i0 i1 p0 s1 z1 s2 z2
        refine ⟨N3, ?_, t5.mono rfl, fun h => by omega⟩
        rw [if_neg (by omega)]
        have w0 := eq_true w0
        refine s_Speech_readTurn hF hg ?_
        simp (config := { maxSteps := 1000000 }) (disch := (first | omega | decide | assumption)) only [ltm_s, ok_n, rd_i, rd_j, fd_i, fd_j, wr_i, wr_j, fw_i, fw_j, ci_s, cj_s, cv_s, dv_n, dw_n, rt_1, rt_b, rt_20, rt_21, okb_0, okb_1, okb_b, nar_0, nar_1, nar_b, i_0, i_1, j_0, j_1, i_lit, j_lit, i_n, iI_add, iI_sub, iI_mul, iI_neg, jI_add, jI_sub, jI_mul, jI_neg, sh_1, an_1, xo_1, di_p, dj_p, i_64A, i_64, j_32, lq_ge, lq_lt, lq_le, lq_gt, lq_eq, i_lt, i_le, i_eq, j_eq, iI_A, jI_J, iI_b, iI_v, jI_v, ↓reduceIte, ite_true, ite_false, Int.reduceEq, Int.reduceLT, Int.reduceLE, Int.reduceAdd, Int.reduceSub, Int.reduceMul, Int.reduceNeg, not_true_eq_false, not_false_eq_true, ct', hm1, hm2, t1, t2, t3, w0]
      · obtain ⟨N', t1, t2, t3, -⟩ := m_trT hF hg ht hm hp hi i0 i1 p0 s1 z1 s2 z2 (h := h) (by omega) (by omega)
        rw [if_pos w0] at t1
        exact ⟨N', go N hJ _ t1, t2, fun _ => t3 w0, fun h => by omega⟩
    · refine ⟨1, 0, h, w, e, Or.inr rfl, by omega, fun _ => ⟨by omega, ⟨wr1, wr2⟩, w0, by omega, by omega⟩, fun N hc hp hi => ?_, fun N hm hp hq hJ hi => ?_⟩
      · obtain ⟨N2, N3, t1, t2, t3, t4, t5, t6⟩ := c_nm hF hg ht hc hp hi i0 i1 p0 s1 z1 s2 z2
        obtain ⟨Y1, Y2, N4, g1, g2, g3, g4, g5, v1, v2⟩ := t6 h (by omega) (by omega)
        refine ⟨N4, ?_, v1, fun _ => v2⟩
        rw [if_pos rfl]
        refine s_Speech_readTurn hF hg ?_
        simp (config := { maxSteps := 1000000 }) (disch := (first | omega | decide | assumption)) only [ltm_s, ok_n, rd_i, rd_j, fd_i, fd_j, wr_i, wr_j, fw_i, fw_j, ci_s, cj_s, cv_s, dv_n, dw_n, rt_1, rt_b, rt_20, rt_21, okb_0, okb_1, okb_b, nar_0, nar_1, nar_b, i_0, i_1, j_0, j_1, i_lit, j_lit, i_n, iI_add, iI_sub, iI_mul, iI_neg, jI_add, jI_sub, jI_mul, jI_neg, sh_1, an_1, xo_1, di_p, dj_p, i_64A, i_64, j_32, lq_ge, lq_lt, lq_le, lq_gt, lq_eq, i_lt, i_le, i_eq, j_eq, iI_A, jI_J, iI_b, iI_v, jI_v, ↓reduceIte, ite_true, ite_false, Int.reduceEq, Int.reduceLT, Int.reduceLE, Int.reduceAdd, Int.reduceSub, Int.reduceMul, Int.reduceNeg, not_true_eq_false, not_false_eq_true, ct', hm1, hm2, t1, t2, t3, w0, t4, g1.symm, g2, g3.symm, g4, g5.symm]
      · obtain ⟨N', t1, t2, -, t4⟩ := m_trT hF hg ht hm hp hi i0 i1 p0 s1 z1 s2 z2 (h := h) (by omega) (by omega)
        rw [if_neg w0] at t1
        exact ⟨N', go N hJ _ t1, t2, fun h => by omega, fun _ => t4 w0⟩
  · have n1 : ¬ W = 1818584692 := by omega
    have n2 : ¬ W = 491394656372 := by omega
    have n3 : ¬ W = 418363302244 := by omega
    by_cases k4 : W = 109330228604025
    · -- comply
      have ct' : ∀ N : am_M, F 76 0 [.long (jI W)] [] N = some (some (.int (iI (-1))), N) := fun N => by
        rw [ct N, if_neg n1, if_neg n2, if_neg n3, if_pos k4]
      have ml' : ∀ N : am_M, J N 219 77 = W → F 188 0 [.ref 219] [] N = some (some (.int (iI (-1))), N) := fun N hw => by
        rw [ml N hw, if_neg n1, if_neg n2]
      have ma' : ∀ N : am_M, J N 219 77 = W → F 120 0 [.ref 219, .int (iI 97), .int (iI 104), .int (iI 101), .int (iI 97), .int (iI 100)] [] N = some (some (.int (iI 0)), N) := fun N hw => by
        rw [ma N hw, bI_f n3]
      have k4' := eq_true k4
      have r1 := ht.r a1
      have r2 := ht.r (a1 + 1)
      -- the model's skip, and the two looks at the digits
      have mk : ∀ N : am_M, Mt x n N → A N 219 75 = p → J N 219 77 = W → A N 219 78 = i → ∃ (N2 : am_M) (v : Int), F 61 0 [.ref 219] [] N = some (none, N2) ∧ Mt x n N2 ∧ A N2 219 75 = a1 ∧ A N2 219 76 = a1 ∧ A N2 219 78 = i ∧ Ch [] [(219, 75), (219, 76)] N N2 ∧ v = bI (48 ≤ x (a1 + 1) ∧ x (a1 + 1) ≤ 57) ∧ ∀ R : am_R, F 227 111 [.ref 219] [.int (iI v)] N2 = some R → F 227 0 [.ref 219] [] N = some R := fun N hm hp hJ hi => by
        obtain ⟨N2, t1, t2, t3, t4⟩ := m_skips hF hg ht hm hp p0 s1 z1
        have hm2 := hm.c3 (t2.mono rfl)
        refine ⟨N2, _, t1, hm2, t3, t4, (t2.f (a := 219) (z := 78) rfl).trans hi, t2, rfl, fun R hR => ?_⟩
        have l := ml' N hJ
        have m2 := ma' N hJ
        have m3 := mc N
        refine s_Model_turnRead hF hg ?_
        refine ci_in l ?_
        rw [if_pos tr_eqL]
        refine ci_in m2 ?_
        rw [if_pos tr_e00, if_pos tr_eqL]
        refine cj_in m3 ?_
        by_cases b : n ≤ a1 + 1
        · rw [bI_f (by have := ht.2.2 (a1 + 1) (Or.inr b); omega)] at hR
          simp (config := { maxSteps := 1000000 }) (disch := (first | omega | decide | assumption)) only [ltm_s, ok_n, rd_i, rd_j, fd_i, fd_j, wr_i, wr_j, fw_i, fw_j, ci_s, cj_s, cv_s, dv_n, dw_n, rt_1, rt_b, rt_20, rt_21, okb_0, okb_1, okb_b, nar_0, nar_1, nar_b, i_0, i_1, j_0, j_1, i_lit, j_lit, i_n, iI_add, iI_sub, iI_mul, iI_neg, jI_add, jI_sub, jI_mul, jI_neg, sh_1, an_1, xo_1, di_p, dj_p, i_64A, i_64, j_32, lq_ge, lq_lt, lq_le, lq_gt, lq_eq, i_lt, i_le, i_eq, j_eq, iI_A, jI_J, iI_b, iI_v, jI_v, ↓reduceIte, ite_true, ite_false, Int.reduceEq, Int.reduceLT, Int.reduceLE, Int.reduceAdd, Int.reduceSub, Int.reduceMul, Int.reduceNeg, not_true_eq_false, not_false_eq_true, hJ, e8, k4', t1, hm2.1, t3, b]
          exact hR
        · have ex := hm2.2 (a1 + 1) (by omega) (by omega)
          have inn := m_inn hF hg (M := N2) (v := x (a1 + 1)) (l := 48) (h := 57) (by omega) (by omega) (by omega) (by omega) (by omega) (by omega)
          by_cases d : 48 ≤ x (a1 + 1) ∧ x (a1 + 1) ≤ 57
          · rw [bI_t d] at hR inn
            simp (config := { maxSteps := 1000000 }) (disch := (first | omega | decide | assumption)) only [ltm_s, ok_n, rd_i, rd_j, fd_i, fd_j, wr_i, wr_j, fw_i, fw_j, ci_s, cj_s, cv_s, dv_n, dw_n, rt_1, rt_b, rt_20, rt_21, okb_0, okb_1, okb_b, nar_0, nar_1, nar_b, i_0, i_1, j_0, j_1, i_lit, j_lit, i_n, iI_add, iI_sub, iI_mul, iI_neg, jI_add, jI_sub, jI_mul, jI_neg, sh_1, an_1, xo_1, di_p, dj_p, i_64A, i_64, j_32, lq_ge, lq_lt, lq_le, lq_gt, lq_eq, i_lt, i_le, i_eq, j_eq, iI_A, jI_J, iI_b, iI_v, jI_v, ↓reduceIte, ite_true, ite_false, Int.reduceEq, Int.reduceLT, Int.reduceLE, Int.reduceAdd, Int.reduceSub, Int.reduceMul, Int.reduceNeg, not_true_eq_false, not_false_eq_true, hJ, e8, k4', t1, hm2.1, t3, b, ex, inn]
            exact hR
          · rw [bI_f d] at hR inn
            simp (config := { maxSteps := 1000000 }) (disch := (first | omega | decide | assumption)) only [ltm_s, ok_n, rd_i, rd_j, fd_i, fd_j, wr_i, wr_j, fw_i, fw_j, ci_s, cj_s, cv_s, dv_n, dw_n, rt_1, rt_b, rt_20, rt_21, okb_0, okb_1, okb_b, nar_0, nar_1, nar_b, i_0, i_1, j_0, j_1, i_lit, j_lit, i_n, iI_add, iI_sub, iI_mul, iI_neg, jI_add, jI_sub, jI_mul, jI_neg, sh_1, an_1, xo_1, di_p, dj_p, i_64A, i_64, j_32, lq_ge, lq_lt, lq_le, lq_gt, lq_eq, i_lt, i_le, i_eq, j_eq, iI_A, jI_J, iI_b, iI_v, jI_v, ↓reduceIte, ite_true, ite_false, Int.reduceEq, Int.reduceLT, Int.reduceLE, Int.reduceAdd, Int.reduceSub, Int.reduceMul, Int.reduceNeg, not_true_eq_false, not_false_eq_true, hJ, e8, k4', t1, hm2.1, t3, b, ex, inn]
            exact hR
      by_cases D : lds x a1
      · have D' := D
        unfold lds at D'
        obtain ⟨D1, D2⟩ := D'
        have an : a1 < n := by
          by_cases z : a1 < n
          · exact z
          · have := ht.2.2 a1 (Or.inr (by omega)); omega
        obtain ⟨a2, s3, z3⟩ := Skp.ex ht (n - (a1 + 1)).toNat (a1 + 1) (by omega) (by omega)
        have s3' := s3.1
        obtain ⟨e, w, s2, z2⟩ := Wrd.ex ht (p := a2) (by omega) z3
        have s2' := s2.1
        have wr := s2.r
        obtain ⟨wr1, wr2⟩ := wr
        have d0 : ¬ x a1 - 48 = 0 := by omega
        have eh : 2 + (x a1 - 48) = x a1 - 46 := by omega
        have eh2 : 2 + x a1 - 48 = x a1 - 46 := by omega
        -- both, as far as the name
        have cc : ∀ N : am_M, Ct x n N → A N 61 2 = p → A N 63 2 = i → ∃ N1 N2 : am_M, F 162 0 [.ref 61] [] N = some (none, N1) ∧ F 163 0 [.ref 61] [] N1 = some (some (.int (iI (x a1 - 48))), N2) ∧ Ct x n N2 ∧ A N2 61 2 = a1 + 1 ∧ A N2 63 2 = i ∧ Ch [] [(61, 2)] N N2 := fun N hc hp hi => by
          obtain ⟨N1, t1, t2, t3⟩ := c_skp hF hg ht hc hp p0 s1 z1
          obtain ⟨b, N2, u1, u2, u3, u4⟩ := c_lone hF hg ht (hc.ch (t2.mono rfl)) t3 (by omega) z1
          obtain ⟨u5, u6⟩ := u3 D
          rw [u5] at u1
          have c := t2.trans u2
          exact ⟨N1, N2, t1, u1, hc.ch (c.mono rfl), u6, (c.f (a := 63) (z := 2) rfl).trans hi, c⟩
        have lone : ∀ N2 Z : am_M, Mt x n N2 → A N2 219 75 = a1 → A N2 246 a1 = x a1 → F 53 0 [.int (iI (x a1)), .int (iI 49), .int (iI 57)] [] N2 = some (some (.int (iI 1)), N2) → ¬ n ≤ a1 → Z = W_ N2 219 75 (a1 + 1) → ∀ R : am_R, trT F (iI (x a1 - 46)) Z = some R → F 227 111 [.ref 219] [.int (iI 0)] N2 = some R := fun N2 Z y2 y3 ex inn b eZ R hR => by
          have n36 := y2.1
          have q1 : ¬ (fI N2 219 36 ≤ fI N2 219 75) := by
            rw [fd_i, fd_i, n36, y3, i_le, iI_v (by omega) (by omega), iI_v (by omega) (by omega)]
            exact b
          have q2 : fI N2 219 75 = iI a1 := by rw [fd_i, y3]
          have q3 : rI N2 246 (iI a1).toNatClampNeg = iI (x a1) := by rw [rd_i (by omega) (by omega), ex]
          have q4 : fW N2 219 75 (iI a1 + 1) = Z := by
            rw [show (1 : Int32) = iI 1 from rfl, iI_add, fw_i, eZ]
          have q5 : ((2 : Int32) + iI (x a1)) - 48 = iI (x a1 - 46) := by
            rw [show (2 : Int32) = iI 2 from rfl, show (48 : Int32) = iI 48 from rfl, iI_add, iI_sub, eh2]
          refine s_Model_turnRead_111 hF hg ?_
          rw [if_neg q1, q2]
          refine ok_in rfl (by omega) (by omega) (by omega) ?_
          rw [q3]
          refine ci_in inn ?_
          rw [if_neg tr_n10, if_pos tr_e00]
          refine ok_in q2 (by omega) (by omega) (by omega) ?_
          rw [q2, q3, q4, q5, ltm_s]
          exact hR
        by_cases w0 : w = 0
        · refine ⟨0, a2, 0, 0, 0, Or.inl rfl, by omega, fun h => by omega, fun N hc hp hi => ?_, fun N hm hp hq hJ hi => ?_⟩
          · obtain ⟨N1, N2, y1, y2, y3, y4, y5, y6⟩ := cc N hc hp hi
            obtain ⟨N3, N4, t1, t2, t3, t4, t5, t6⟩ := c_nm hF hg ht y3 y4 y5 i0 i1 (by omega) s3 z3 s2 z2
            refine ⟨N4, ?_, (y6.trans t5).mono rfl, fun h => by omega⟩
            rw [if_neg (by omega)]
            have w0 := eq_true w0
            refine s_Speech_readTurn hF hg ?_
            simp (config := { maxSteps := 1000000 }) (disch := (first | omega | decide | assumption)) only [ltm_s, ok_n, rd_i, rd_j, fd_i, fd_j, wr_i, wr_j, fw_i, fw_j, ci_s, cj_s, cv_s, dv_n, dw_n, rt_1, rt_b, rt_20, rt_21, okb_0, okb_1, okb_b, nar_0, nar_1, nar_b, i_0, i_1, j_0, j_1, i_lit, j_lit, i_n, iI_add, iI_sub, iI_mul, iI_neg, jI_add, jI_sub, jI_mul, jI_neg, sh_1, an_1, xo_1, di_p, dj_p, i_64A, i_64, j_32, lq_ge, lq_lt, lq_le, lq_gt, lq_eq, i_lt, i_le, i_eq, j_eq, iI_A, jI_J, iI_b, iI_v, jI_v, ↓reduceIte, ite_true, ite_false, Int.reduceEq, Int.reduceLT, Int.reduceLE, Int.reduceAdd, Int.reduceSub, Int.reduceMul, Int.reduceNeg, not_true_eq_false, not_false_eq_true, ct', y1, y2, d0, t1, t2, t3, w0]
          · obtain ⟨N2, v, y1, y2, y3, y4, y5, y6, y7, y8⟩ := mk N hm hp hJ hi
            rw [bI_f D2] at y7
            subst y7
            have cW : Ch [] [(219, 75), (219, 76)] N (W_ N2 219 75 (a1 + 1)) := y6.wm (Or.inr (by decide))
            obtain ⟨Z, eZ⟩ : ∃ y : am_M, y = W_ N2 219 75 (a1 + 1) := ⟨_, rfl⟩
            rw [← eZ] at cW
            obtain ⟨N3, t1, t2, t3, -⟩ := m_trT hF hg ht (hm.c3 (cW.mono rfl)) (by rw [eZ]; exact A_Ws (by omega) (by omega)) (i := i) (by rw [eZ, A_Wo (by omega) (by omega) (by omega)]; exact y5) i0 i1 (by omega) s3 z3 s2 z2 (h := x a1 - 46) (by omega) (by omega)
            rw [if_pos w0] at t1
            refine ⟨N3, y8 _ ?_, (cW.mono rfl).trans t2, fun _ => t3 w0, fun h => by omega⟩
            have inn := m_inn hF hg (M := N2) (v := x a1) (l := 49) (h := 57) (by omega) (by omega) (by omega) (by omega) (by omega) (by omega)
            rw [bI_t D1] at inn
            have ex := y2.2 a1 (by omega) an
            have b : ¬ n ≤ a1 := by omega
            exact lone N2 Z y2 y3 ex inn b eZ _ t1
        · refine ⟨1, 0, x a1 - 46, w, e, Or.inr rfl, by omega, fun _ => ⟨by omega, ⟨wr1, wr2⟩, w0, by omega, by omega⟩, fun N hc hp hi => ?_, fun N hm hp hq hJ hi => ?_⟩
          · obtain ⟨N1, N2, y1, y2, y3, y4, y5, y6⟩ := cc N hc hp hi
            obtain ⟨N3, N4, t1, t2, t3, t4, t5, t6⟩ := c_nm hF hg ht y3 y4 y5 i0 i1 (by omega) s3 z3 s2 z2
            obtain ⟨Y1, Y2, N5, g1, g2, g3, g4, g5, v1, v2, v3, v4, v5, v6⟩ := t6 (x a1 - 46) (by omega) (by omega)
            refine ⟨N5, ?_, (y6.mono rfl).trans v1, fun _ => ⟨v2, v3, v4, v5, fun j j0 j1 => ⟨(v6 j j0 j1).1.trans (y6.a rfl), (v6 j j0 j1).2.trans (y6.j rfl rfl)⟩⟩⟩
            rw [if_pos rfl]
            refine s_Speech_readTurn hF hg ?_
            simp (config := { maxSteps := 1000000 }) (disch := (first | omega | decide | assumption)) only [ltm_s, ok_n, rd_i, rd_j, fd_i, fd_j, wr_i, wr_j, fw_i, fw_j, ci_s, cj_s, cv_s, dv_n, dw_n, rt_1, rt_b, rt_20, rt_21, okb_0, okb_1, okb_b, nar_0, nar_1, nar_b, i_0, i_1, j_0, j_1, i_lit, j_lit, i_n, iI_add, iI_sub, iI_mul, iI_neg, jI_add, jI_sub, jI_mul, jI_neg, sh_1, an_1, xo_1, di_p, dj_p, i_64A, i_64, j_32, lq_ge, lq_lt, lq_le, lq_gt, lq_eq, i_lt, i_le, i_eq, j_eq, iI_A, jI_J, iI_b, iI_v, jI_v, ↓reduceIte, ite_true, ite_false, Int.reduceEq, Int.reduceLT, Int.reduceLE, Int.reduceAdd, Int.reduceSub, Int.reduceMul, Int.reduceNeg, not_true_eq_false, not_false_eq_true, ct', y1, y2, d0, t1, t2, t3, w0, t4, eh, g1.symm, g2, g3.symm, g4, g5.symm]
          · obtain ⟨N2, v, y1, y2, y3, y4, y5, y6, y7, y8⟩ := mk N hm hp hJ hi
            rw [bI_f D2] at y7
            subst y7
            have cW : Ch [] [(219, 75), (219, 76)] N (W_ N2 219 75 (a1 + 1)) := y6.wm (Or.inr (by decide))
            obtain ⟨Z, eZ⟩ : ∃ y : am_M, y = W_ N2 219 75 (a1 + 1) := ⟨_, rfl⟩
            rw [← eZ] at cW
            obtain ⟨N3, t1, t2, -, t4⟩ := m_trT hF hg ht (hm.c3 (cW.mono rfl)) (by rw [eZ]; exact A_Ws (by omega) (by omega)) (i := i) (by rw [eZ, A_Wo (by omega) (by omega) (by omega)]; exact y5) i0 i1 (by omega) s3 z3 s2 z2 (h := x a1 - 46) (by omega) (by omega)
            rw [if_neg w0] at t1
            obtain ⟨v2, v3, v4, v5, v6⟩ := t4 w0
            refine ⟨N3, y8 _ ?_, (cW.mono rfl).trans t2, fun h => by omega, fun _ => ⟨v2, v3, v4, v5, fun j j0 j1 => ⟨(v6 j j0 j1).1.trans (cW.a rfl), (v6 j j0 j1).2.trans (cW.j rfl rfl)⟩⟩⟩
            have inn := m_inn hF hg (M := N2) (v := x a1) (l := 49) (h := 57) (by omega) (by omega) (by omega) (by omega) (by omega) (by omega)
            rw [bI_t D1] at inn
            have ex := y2.2 a1 (by omega) an
            have b : ¬ n ≤ a1 := by omega
            exact lone N2 Z y2 y3 ex inn b eZ _ t1
      · -- no lone digit
        refine ⟨0, a1, 0, 0, 0, Or.inl rfl, by omega, fun h => by omega, fun N hc hp hi => ?_, fun N hm hp hq hJ hi => ?_⟩
        · obtain ⟨N1, t1, t2, t3⟩ := c_skp hF hg ht hc hp p0 s1 z1
          obtain ⟨b, N2, u1, u2, u3, u4⟩ := c_lone hF hg ht (hc.ch (t2.mono rfl)) t3 (by omega) z1
          obtain ⟨u5, u6⟩ := u4 D
          rw [u5] at u1
          refine ⟨N2, ?_, (t2.trans u2).mono rfl, fun h => by omega⟩
          rw [if_neg (by omega)]
          refine s_Speech_readTurn hF hg ?_
          simp (config := { maxSteps := 1000000 }) (disch := (first | omega | decide | assumption)) only [ltm_s, ok_n, rd_i, rd_j, fd_i, fd_j, wr_i, wr_j, fw_i, fw_j, ci_s, cj_s, cv_s, dv_n, dw_n, rt_1, rt_b, rt_20, rt_21, okb_0, okb_1, okb_b, nar_0, nar_1, nar_b, i_0, i_1, j_0, j_1, i_lit, j_lit, i_n, iI_add, iI_sub, iI_mul, iI_neg, jI_add, jI_sub, jI_mul, jI_neg, sh_1, an_1, xo_1, di_p, dj_p, i_64A, i_64, j_32, lq_ge, lq_lt, lq_le, lq_gt, lq_eq, i_lt, i_le, i_eq, j_eq, iI_A, jI_J, iI_b, iI_v, jI_v, ↓reduceIte, ite_true, ite_false, Int.reduceEq, Int.reduceLT, Int.reduceLE, Int.reduceAdd, Int.reduceSub, Int.reduceMul, Int.reduceNeg, not_true_eq_false, not_false_eq_true, ct', t1, u1, u6]
        · obtain ⟨N2, v, y1, y2, y3, y4, y5, y6, y7, y8⟩ := mk N hm hp hJ hi
          refine ⟨N2, y8 _ ?_, y6.mono rfl, fun _ => y4, fun h => by omega⟩
          unfold lds at D
          refine s_Model_turnRead_111 hF hg ?_
          by_cases b : n ≤ a1
          · simp (config := { maxSteps := 1000000 }) (disch := (first | omega | decide | assumption)) only [ltm_s, ok_n, rd_i, rd_j, fd_i, fd_j, wr_i, wr_j, fw_i, fw_j, ci_s, cj_s, cv_s, dv_n, dw_n, rt_1, rt_b, rt_20, rt_21, okb_0, okb_1, okb_b, nar_0, nar_1, nar_b, i_0, i_1, j_0, j_1, i_lit, j_lit, i_n, iI_add, iI_sub, iI_mul, iI_neg, jI_add, jI_sub, jI_mul, jI_neg, sh_1, an_1, xo_1, di_p, dj_p, i_64A, i_64, j_32, lq_ge, lq_lt, lq_le, lq_gt, lq_eq, i_lt, i_le, i_eq, j_eq, iI_A, jI_J, iI_b, iI_v, jI_v, ↓reduceIte, ite_true, ite_false, Int.reduceEq, Int.reduceLT, Int.reduceLE, Int.reduceAdd, Int.reduceSub, Int.reduceMul, Int.reduceNeg, not_true_eq_false, not_false_eq_true, y2.1, y3, b]
          · have inn := m_inn hF hg (M := N2) (v := x a1) (l := 49) (h := 57) (by omega) (by omega) (by omega) (by omega) (by omega) (by omega)
            have ex := y2.2 a1 (by omega) (by omega)
            by_cases d : 49 ≤ x a1 ∧ x a1 ≤ 57
            · rw [bI_t d] at inn
              rw [bI_t (by omega)] at y7
              subst y7
              simp (config := { maxSteps := 1000000 }) (disch := (first | omega | decide | assumption)) only [ltm_s, ok_n, rd_i, rd_j, fd_i, fd_j, wr_i, wr_j, fw_i, fw_j, ci_s, cj_s, cv_s, dv_n, dw_n, rt_1, rt_b, rt_20, rt_21, okb_0, okb_1, okb_b, nar_0, nar_1, nar_b, i_0, i_1, j_0, j_1, i_lit, j_lit, i_n, iI_add, iI_sub, iI_mul, iI_neg, jI_add, jI_sub, jI_mul, jI_neg, sh_1, an_1, xo_1, di_p, dj_p, i_64A, i_64, j_32, lq_ge, lq_lt, lq_le, lq_gt, lq_eq, i_lt, i_le, i_eq, j_eq, iI_A, jI_J, iI_b, iI_v, jI_v, ↓reduceIte, ite_true, ite_false, Int.reduceEq, Int.reduceLT, Int.reduceLE, Int.reduceAdd, Int.reduceSub, Int.reduceMul, Int.reduceNeg, not_true_eq_false, not_false_eq_true, y2.1, y3, b, ex, inn]
            · rw [bI_f d] at inn
              simp (config := { maxSteps := 1000000 }) (disch := (first | omega | decide | assumption)) only [ltm_s, ok_n, rd_i, rd_j, fd_i, fd_j, wr_i, wr_j, fw_i, fw_j, ci_s, cj_s, cv_s, dv_n, dw_n, rt_1, rt_b, rt_20, rt_21, okb_0, okb_1, okb_b, nar_0, nar_1, nar_b, i_0, i_1, j_0, j_1, i_lit, j_lit, i_n, iI_add, iI_sub, iI_mul, iI_neg, jI_add, jI_sub, jI_mul, jI_neg, sh_1, an_1, xo_1, di_p, dj_p, i_64A, i_64, j_32, lq_ge, lq_lt, lq_le, lq_gt, lq_eq, i_lt, i_le, i_eq, j_eq, iI_A, jI_J, iI_b, iI_v, jI_v, ↓reduceIte, ite_true, ite_false, Int.reduceEq, Int.reduceLT, Int.reduceLE, Int.reduceAdd, Int.reduceSub, Int.reduceMul, Int.reduceNeg, not_true_eq_false, not_false_eq_true, y2.1, y3, b, ex, inn]
    · -- no turn
      refine ⟨0, q, 0, 0, 0, Or.inl rfl, by omega, fun h => by omega, fun N hc hp hi => ?_, fun N hm hp hq hJ hi => ?_⟩
      · have ct' : F 76 0 [.long (jI W)] [] N = some (some (.int (iI (-2))), N) := by
          rw [ct N, if_neg n1, if_neg n2, if_neg n3, if_neg k4]
        refine ⟨N, ?_, Ch.refl, fun h => by omega⟩
        rw [if_neg (by omega)]
        refine s_Speech_readTurn hF hg ?_
        simp (config := { maxSteps := 1000000 }) (disch := (first | omega | decide | assumption)) only [ltm_s, ok_n, rd_i, rd_j, fd_i, fd_j, wr_i, wr_j, fw_i, fw_j, ci_s, cj_s, cv_s, dv_n, dw_n, rt_1, rt_b, rt_20, rt_21, okb_0, okb_1, okb_b, nar_0, nar_1, nar_b, i_0, i_1, j_0, j_1, i_lit, j_lit, i_n, iI_add, iI_sub, iI_mul, iI_neg, jI_add, jI_sub, jI_mul, jI_neg, sh_1, an_1, xo_1, di_p, dj_p, i_64A, i_64, j_32, lq_ge, lq_lt, lq_le, lq_gt, lq_eq, i_lt, i_le, i_eq, j_eq, iI_A, jI_J, iI_b, iI_v, jI_v, ↓reduceIte, ite_true, ite_false, Int.reduceEq, Int.reduceLT, Int.reduceLE, Int.reduceAdd, Int.reduceSub, Int.reduceMul, Int.reduceNeg, not_true_eq_false, not_false_eq_true, ct']
      · have l := ml N hJ
        rw [if_neg n1, if_neg n2] at l
        have m2 := ma N hJ
        rw [bI_f n3] at m2
        have m3 := mc N
        refine ⟨N, ?_, Ch.refl, fun _ => hq, fun h => by omega⟩
        refine s_Model_turnRead hF hg ?_
        refine ci_in l ?_
        rw [if_pos tr_eqL]
        refine ci_in m2 ?_
        rw [if_pos tr_e00, if_pos tr_eqL]
        refine cj_in m3 ?_
        simp (config := { maxSteps := 1000000 }) (disch := (first | omega | decide | assumption)) only [ltm_s, ok_n, rd_i, rd_j, fd_i, fd_j, wr_i, wr_j, fw_i, fw_j, ci_s, cj_s, cv_s, dv_n, dw_n, rt_1, rt_b, rt_20, rt_21, okb_0, okb_1, okb_b, nar_0, nar_1, nar_b, i_0, i_1, j_0, j_1, i_lit, j_lit, i_n, iI_add, iI_sub, iI_mul, iI_neg, jI_add, jI_sub, jI_mul, jI_neg, sh_1, an_1, xo_1, di_p, dj_p, i_64A, i_64, j_32, lq_ge, lq_lt, lq_le, lq_gt, lq_eq, i_lt, i_le, i_eq, j_eq, iI_A, jI_J, iI_b, iI_v, jI_v, ↓reduceIte, ite_true, ite_false, Int.reduceEq, Int.reduceLT, Int.reduceLE, Int.reduceAdd, Int.reduceSub, Int.reduceMul, Int.reduceNeg, not_true_eq_false, not_false_eq_true, hJ, e8, k4]
end Sx
