/-! A WHOLE SPEECH, read by both -/
section Sy
variable {M N : am_M} {g : am_G} {F : am_FT} {x : Int → Int} {n : Int}
-- the end: set down left or right
theorem sp_sd (hF : F = am_F T0 g) (hg : GG g) (ht : Tp x n) {p : Int} (p0 : 0 ≤ p) (p1 : p ≤ n) : ∃ ft rt : Int, (ft = -1 ∨ (0 ≤ ft ∧ ft ≤ n)) ∧ (rt = 0 ∨ rt = 1) ∧
    (∀ N : am_M, Ct x n N → A N 61 2 = p → ∃ N' : am_M, F 214 0 [.ref 63, .ref 61] [] N = some (some (.int (iI ft)), N') ∧ Ch [] [(61, 2), (63, 1)] N N' ∧ (ft = -1 → A N' 63 1 = rt)) ∧
    (∀ N : am_M, Mt x n N → A N 219 75 = p → J N 219 77 = 7562612 → ∃ N' : am_M, F 236 92 [.ref 219] [] N = some (some (.int (iI ft)), N') ∧ Ch [] [(219, 75), (219, 76), (219, 77), (219, 82)] N N' ∧ (ft = -1 → A N' 219 82 = 1 - rt)) := by
  have hn := ht.1
  obtain ⟨a, s1, z1⟩ := Skp.ex ht (n - p).toNat p (by omega) p0
  have s1' := s1.1
  obtain ⟨e, W, s2, z2⟩ := Wrd.ex ht (p := a) (by omega) z1
  have s2' := s2.1
  have wr := s2.r
  obtain ⟨wr1, wr2⟩ := wr
  obtain ⟨b, s3, z3⟩ := Skp.ex ht (n - e).toNat e (by omega) (by omega)
  have s3' := s3.1
  have cl : ∀ N : am_M, Ct x n N → A N 61 2 = p → ∃ N1 N2 : am_M, F 162 0 [.ref 61] [] N = some (none, N1) ∧ A N1 61 2 = a ∧ F 165 0 [.ref 61] [] N1 = some (some (.long (jI W)), N2) ∧ Ct x n N2 ∧ A N2 61 2 = e ∧ Ch [] [(61, 2)] N N2 := fun N hc hp => by
    obtain ⟨N1, t1, t2, t3⟩ := c_skp hF hg ht hc hp p0 s1 z1
    obtain ⟨N2, u1, u2, u3⟩ := c_word hF hg ht (hc.ch (t2.mono rfl)) t3 (by omega) s2 z2
    exact ⟨N1, N2, t1, t3, u1, hc.ch ((t2.trans u2).mono rfl), u3, t2.trans u2⟩
  have ml : ∀ N : am_M, Mt x n N → A N 219 75 = p → J N 219 77 = 7562612 → ∃ N1 : am_M, F 120 0 [.ref 219, .int (iI 115), .int (iI 101), .int (iI 116), .int (iI 0), .int (iI 0)] [] N = some (some (.int (iI 1)), N) ∧ F 134 0 [.ref 219] [] N = some (none, N1) ∧ F 188 0 [.ref 219] [] N1 = some (some (.int (iI (lrf W))), N1) ∧ Mt x n N1 ∧ A N1 219 75 = e ∧ A N1 219 76 = a ∧ Ch [] [(219, 75), (219, 76), (219, 77)] N N1 := fun N hm hp hJ => by
    have i1 := m_isSaid hF hg hJ (by omega) (by omega) (w_set (N := N) hF hg)
    rw [bI_t rfl] at i1
    obtain ⟨N1, t1, t2, t3, t4, t5⟩ := m_reads hF hg ht hm hp p0 s1 z1 s2 z2
    exact ⟨N1, i1, t1, m_leftRight hF hg t5, hm.c3 (t2.mono rfl), t3, t4, t2⟩
  have n10 : ¬ (1 : Int) = 0 := by omega
  by_cases k : W = 1818584692 ∨ W = 491394656372
  · obtain ⟨rt, er⟩ : ∃ rt : Int, rt = (if W = 1818584692 then 0 else 1) := ⟨_, rfl⟩
    have rt01 : rt = 0 ∨ rt = 1 := by rw [er]; split <;> omega
    have lr : lrf W = rt := by
      unfold lrf
      rw [er]
      rcases k with k | k <;> subst k <;> rfl
    have hW' : rt = 0 → W = 1818584692 := fun h => by
      rcases k with k | k
      · exact k
      · subst k; rw [er] at h; exact absurd h (by decide)
    have hW'' : rt = 1 → W = 491394656372 := fun h => by
      rcases k with k | k
      · subst k; rw [er] at h; exact absurd h (by decide)
      · exact k
    -- both, after the mark
    have c3 : ∀ N2 : am_M, Ct x n N2 → A N2 61 2 = e → ∃ N4 : am_M, F 162 0 [.ref 61] [] (W_ N2 63 1 rt) = some (none, N4) ∧ F 79 0 [.ref 61] [] N4 = some (some (.int (iI (bI (n ≤ b)))), N4) ∧ A N4 61 2 = b ∧ Ch [] [(61, 2), (63, 1)] N2 N4 ∧ A N4 63 1 = rt := fun N2 hc hp => by
      have hc' : Ct x n (W_ N2 63 1 rt) := ⟨by rw [A_Wn (by decide)]; exact hc.1, fun p p0 p1 => by rw [A_Wn (by decide)]; exact hc.2 p p0 p1⟩
      have cW : Ch [] [(61, 2), (63, 1)] N2 (W_ N2 63 1 rt) := Ch.refl.wm (Or.inr (by decide))
      obtain ⟨N4, t1, t2, t3⟩ := c_skp hF hg ht hc' (by rw [A_Wn (by decide)]; exact hp) (by omega) s3 z3
      exact ⟨N4, t1, c_isAtEnd hF hg ht (hc'.ch (t2.mono rfl)) t3, t3, cW.trans (t2.mono rfl), (t2.f (a := 63) (z := 1) rfl).trans (A_Ws (by omega) (by omega))⟩
    have m3 : ∀ N1 : am_M, Mt x n N1 → A N1 219 75 = e → ∃ N3 : am_M, F 61 0 [.ref 219] [] (W_ N1 219 82 (1 - rt)) = some (none, N3) ∧ A N3 219 36 = n ∧ A N3 219 75 = b ∧ A N3 219 76 = b ∧ Ch [] [(219, 75), (219, 76), (219, 77), (219, 82)] N1 N3 ∧ A N3 219 82 = 1 - rt := fun N1 hm hp => by
      have cW : Ch [] [(219, 75), (219, 76), (219, 77), (219, 82)] N1 (W_ N1 219 82 (1 - rt)) := Ch.refl.wm (Or.inr (by decide))
      have hm' := hm.c3 (cW.mono rfl)
      obtain ⟨N3, t1, t2, t3, t4⟩ := m_skips hF hg ht hm' (by rw [A_Wo (by omega) (by omega) (by omega)]; exact hp) (by omega) s3 z3
      exact ⟨N3, t1, (hm'.c3 (t2.mono rfl)).1, t3, t4, cW.trans (t2.mono rfl), (t2.f (a := 219) (z := 82) rfl).trans (A_Ws (by omega) (by omega))⟩
    refine ⟨if n ≤ b then -1 else b, rt, by split <;> omega, rt01, fun N hc hp => ?_, fun N hm hp hJ => ?_⟩
    · obtain ⟨N1, N2, t1, t2, t3, t4, t5, t6⟩ := cl N hc hp
      obtain ⟨N4, u1, u2, u3, u4, u5⟩ := c3 N2 t4 t5
      refine ⟨N4, ?_, (t6.mono rfl).trans u4, fun _ => u5⟩
      rcases rt01 with h | h
      · have k := eq_true (hW' h)
        have k2 : ¬ W = 491394656372 := by rw [hW' h]; decide
        subst h
        refine s_Speech_readSetDown hF hg ?_
        by_cases q : n ≤ b
        · rw [if_pos q]
          rw [bI_t q] at u2
          simp (config := { maxSteps := 1000000 }) (disch := (first | omega | decide | assumption)) only [ltm_s, ok_n, rd_i, rd_j, fd_i, fd_j, wr_i, wr_j, fw_i, fw_j, ci_s, cj_s, cv_s, dv_n, dw_n, rt_1, rt_b, rt_20, rt_21, okb_0, okb_1, okb_b, nar_0, nar_1, nar_b, i_0, i_1, j_0, j_1, i_lit, j_lit, i_n, iI_add, iI_sub, iI_mul, iI_neg, jI_add, jI_sub, jI_mul, jI_neg, sh_1, an_1, xo_1, di_p, dj_p, i_64A, i_64, j_32, lq_ge, lq_lt, lq_le, lq_gt, lq_eq, i_lt, i_le, i_eq, j_eq, iI_A, jI_J, iI_b, iI_v, jI_v, ↓reduceIte, ite_true, ite_false, Int.reduceEq, Int.reduceLT, Int.reduceLE, Int.reduceAdd, Int.reduceSub, Int.reduceMul, Int.reduceNeg, not_true_eq_false, not_false_eq_true, t1, t2, t3, k, k2, u1, u2, u3]
        · rw [if_neg q]
          rw [bI_f q] at u2
          simp (config := { maxSteps := 1000000 }) (disch := (first | omega | decide | assumption)) only [ltm_s, ok_n, rd_i, rd_j, fd_i, fd_j, wr_i, wr_j, fw_i, fw_j, ci_s, cj_s, cv_s, dv_n, dw_n, rt_1, rt_b, rt_20, rt_21, okb_0, okb_1, okb_b, nar_0, nar_1, nar_b, i_0, i_1, j_0, j_1, i_lit, j_lit, i_n, iI_add, iI_sub, iI_mul, iI_neg, jI_add, jI_sub, jI_mul, jI_neg, sh_1, an_1, xo_1, di_p, dj_p, i_64A, i_64, j_32, lq_ge, lq_lt, lq_le, lq_gt, lq_eq, i_lt, i_le, i_eq, j_eq, iI_A, jI_J, iI_b, iI_v, jI_v, ↓reduceIte, ite_true, ite_false, Int.reduceEq, Int.reduceLT, Int.reduceLE, Int.reduceAdd, Int.reduceSub, Int.reduceMul, Int.reduceNeg, not_true_eq_false, not_false_eq_true, t1, t2, t3, k, k2, u1, u2, u3]
      · have k := eq_true (hW'' h)
        have k2 : ¬ W = 1818584692 := by rw [hW'' h]; decide
        subst h
        refine s_Speech_readSetDown hF hg ?_
        by_cases q : n ≤ b
        · rw [if_pos q]
          rw [bI_t q] at u2
          simp (config := { maxSteps := 1000000 }) (disch := (first | omega | decide | assumption)) only [ltm_s, ok_n, rd_i, rd_j, fd_i, fd_j, wr_i, wr_j, fw_i, fw_j, ci_s, cj_s, cv_s, dv_n, dw_n, rt_1, rt_b, rt_20, rt_21, okb_0, okb_1, okb_b, nar_0, nar_1, nar_b, i_0, i_1, j_0, j_1, i_lit, j_lit, i_n, iI_add, iI_sub, iI_mul, iI_neg, jI_add, jI_sub, jI_mul, jI_neg, sh_1, an_1, xo_1, di_p, dj_p, i_64A, i_64, j_32, lq_ge, lq_lt, lq_le, lq_gt, lq_eq, i_lt, i_le, i_eq, j_eq, iI_A, jI_J, iI_b, iI_v, jI_v, ↓reduceIte, ite_true, ite_false, Int.reduceEq, Int.reduceLT, Int.reduceLE, Int.reduceAdd, Int.reduceSub, Int.reduceMul, Int.reduceNeg, not_true_eq_false, not_false_eq_true, t1, t2, t3, k, k2, u1, u2, u3]
        · rw [if_neg q]
          rw [bI_f q] at u2
          simp (config := { maxSteps := 1000000 }) (disch := (first | omega | decide | assumption)) only [ltm_s, ok_n, rd_i, rd_j, fd_i, fd_j, wr_i, wr_j, fw_i, fw_j, ci_s, cj_s, cv_s, dv_n, dw_n, rt_1, rt_b, rt_20, rt_21, okb_0, okb_1, okb_b, nar_0, nar_1, nar_b, i_0, i_1, j_0, j_1, i_lit, j_lit, i_n, iI_add, iI_sub, iI_mul, iI_neg, jI_add, jI_sub, jI_mul, jI_neg, sh_1, an_1, xo_1, di_p, dj_p, i_64A, i_64, j_32, lq_ge, lq_lt, lq_le, lq_gt, lq_eq, i_lt, i_le, i_eq, j_eq, iI_A, jI_J, iI_b, iI_v, jI_v, ↓reduceIte, ite_true, ite_false, Int.reduceEq, Int.reduceLT, Int.reduceLE, Int.reduceAdd, Int.reduceSub, Int.reduceMul, Int.reduceNeg, not_true_eq_false, not_false_eq_true, t1, t2, t3, k, k2, u1, u2, u3]
    · obtain ⟨N1, t1, t2, t3, t4, t5, t6, t7⟩ := ml N hm hp hJ
      rw [lr] at t3
      obtain ⟨N3, u1, u2, u3, u4, u5, u6⟩ := m3 N1 t4 t5
      refine ⟨N3, ?_, (t7.mono rfl).trans u5, fun _ => u6⟩
      have r1 : ¬ rt = -1 := by omega
      rcases rt01 with h | h
      · subst h
        have e1 : (1 : Int) - 0 = 1 := rfl
        rw [e1] at u1
        refine s_Model_saidRead_92 hF hg ?_
        by_cases q : n ≤ b
        · rw [if_pos q]
          simp (config := { maxSteps := 1000000 }) (disch := (first | omega | decide | assumption)) only [ltm_s, ok_n, rd_i, rd_j, fd_i, fd_j, wr_i, wr_j, fw_i, fw_j, ci_s, cj_s, cv_s, dv_n, dw_n, rt_1, rt_b, rt_20, rt_21, okb_0, okb_1, okb_b, nar_0, nar_1, nar_b, i_0, i_1, j_0, j_1, i_lit, j_lit, i_n, iI_add, iI_sub, iI_mul, iI_neg, jI_add, jI_sub, jI_mul, jI_neg, sh_1, an_1, xo_1, di_p, dj_p, i_64A, i_64, j_32, lq_ge, lq_lt, lq_le, lq_gt, lq_eq, i_lt, i_le, i_eq, j_eq, iI_A, jI_J, iI_b, iI_v, jI_v, ↓reduceIte, ite_true, ite_false, Int.reduceEq, Int.reduceLT, Int.reduceLE, Int.reduceAdd, Int.reduceSub, Int.reduceMul, Int.reduceNeg, not_true_eq_false, not_false_eq_true, t1, t2, t3, u1, u2, u3, u4, q]
        · rw [if_neg q]
          simp (config := { maxSteps := 1000000 }) (disch := (first | omega | decide | assumption)) only [ltm_s, ok_n, rd_i, rd_j, fd_i, fd_j, wr_i, wr_j, fw_i, fw_j, ci_s, cj_s, cv_s, dv_n, dw_n, rt_1, rt_b, rt_20, rt_21, okb_0, okb_1, okb_b, nar_0, nar_1, nar_b, i_0, i_1, j_0, j_1, i_lit, j_lit, i_n, iI_add, iI_sub, iI_mul, iI_neg, jI_add, jI_sub, jI_mul, jI_neg, sh_1, an_1, xo_1, di_p, dj_p, i_64A, i_64, j_32, lq_ge, lq_lt, lq_le, lq_gt, lq_eq, i_lt, i_le, i_eq, j_eq, iI_A, jI_J, iI_b, iI_v, jI_v, ↓reduceIte, ite_true, ite_false, Int.reduceEq, Int.reduceLT, Int.reduceLE, Int.reduceAdd, Int.reduceSub, Int.reduceMul, Int.reduceNeg, not_true_eq_false, not_false_eq_true, t1, t2, t3, u1, u2, u3, u4, q]
      · subst h
        have e1 : (1 : Int) - 1 = 0 := rfl
        rw [e1] at u1
        refine s_Model_saidRead_92 hF hg ?_
        by_cases q : n ≤ b
        · rw [if_pos q]
          simp (config := { maxSteps := 1000000 }) (disch := (first | omega | decide | assumption)) only [ltm_s, ok_n, rd_i, rd_j, fd_i, fd_j, wr_i, wr_j, fw_i, fw_j, ci_s, cj_s, cv_s, dv_n, dw_n, rt_1, rt_b, rt_20, rt_21, okb_0, okb_1, okb_b, nar_0, nar_1, nar_b, i_0, i_1, j_0, j_1, i_lit, j_lit, i_n, iI_add, iI_sub, iI_mul, iI_neg, jI_add, jI_sub, jI_mul, jI_neg, sh_1, an_1, xo_1, di_p, dj_p, i_64A, i_64, j_32, lq_ge, lq_lt, lq_le, lq_gt, lq_eq, i_lt, i_le, i_eq, j_eq, iI_A, jI_J, iI_b, iI_v, jI_v, ↓reduceIte, ite_true, ite_false, Int.reduceEq, Int.reduceLT, Int.reduceLE, Int.reduceAdd, Int.reduceSub, Int.reduceMul, Int.reduceNeg, not_true_eq_false, not_false_eq_true, t1, t2, t3, u1, u2, u3, u4, q]
        · rw [if_neg q]
          simp (config := { maxSteps := 1000000 }) (disch := (first | omega | decide | assumption)) only [ltm_s, ok_n, rd_i, rd_j, fd_i, fd_j, wr_i, wr_j, fw_i, fw_j, ci_s, cj_s, cv_s, dv_n, dw_n, rt_1, rt_b, rt_20, rt_21, okb_0, okb_1, okb_b, nar_0, nar_1, nar_b, i_0, i_1, j_0, j_1, i_lit, j_lit, i_n, iI_add, iI_sub, iI_mul, iI_neg, jI_add, jI_sub, jI_mul, jI_neg, sh_1, an_1, xo_1, di_p, dj_p, i_64A, i_64, j_32, lq_ge, lq_lt, lq_le, lq_gt, lq_eq, i_lt, i_le, i_eq, j_eq, iI_A, jI_J, iI_b, iI_v, jI_v, ↓reduceIte, ite_true, ite_false, Int.reduceEq, Int.reduceLT, Int.reduceLE, Int.reduceAdd, Int.reduceSub, Int.reduceMul, Int.reduceNeg, not_true_eq_false, not_false_eq_true, t1, t2, t3, u1, u2, u3, u4, q]
  · have k1 : ¬ W = 1818584692 := by omega
    have k2 : ¬ W = 491394656372 := by omega
    refine ⟨a, 0, by omega, Or.inl rfl, fun N hc hp => ?_, fun N hm hp hJ => ?_⟩
    · obtain ⟨N1, N2, t1, t2, t3, t4, t5, t6⟩ := cl N hc hp
      refine ⟨N2, ?_, t6.mono rfl, fun h => by omega⟩
      refine s_Speech_readSetDown hF hg ?_
      simp (config := { maxSteps := 1000000 }) (disch := (first | omega | decide | assumption)) only [ltm_s, ok_n, rd_i, rd_j, fd_i, fd_j, wr_i, wr_j, fw_i, fw_j, ci_s, cj_s, cv_s, dv_n, dw_n, rt_1, rt_b, rt_20, rt_21, okb_0, okb_1, okb_b, nar_0, nar_1, nar_b, i_0, i_1, j_0, j_1, i_lit, j_lit, i_n, iI_add, iI_sub, iI_mul, iI_neg, jI_add, jI_sub, jI_mul, jI_neg, sh_1, an_1, xo_1, di_p, dj_p, i_64A, i_64, j_32, lq_ge, lq_lt, lq_le, lq_gt, lq_eq, i_lt, i_le, i_eq, j_eq, iI_A, jI_J, iI_b, iI_v, jI_v, ↓reduceIte, ite_true, ite_false, Int.reduceEq, Int.reduceLT, Int.reduceLE, Int.reduceAdd, Int.reduceSub, Int.reduceMul, Int.reduceNeg, not_true_eq_false, not_false_eq_true, t1, t2, t3, k1, k2]
    · obtain ⟨N1, t1, t2, t3, t4, t5, t6, t7⟩ := ml N hm hp hJ
      unfold lrf at t3
      rw [if_neg k1, if_neg k2] at t3
      refine ⟨N1, ?_, t7.mono rfl, fun h => by omega⟩
      refine s_Model_saidRead_92 hF hg ?_
      simp (config := { maxSteps := 1000000 }) (disch := (first | omega | decide | assumption)) only [ltm_s, ok_n, rd_i, rd_j, fd_i, fd_j, wr_i, wr_j, fw_i, fw_j, ci_s, cj_s, cv_s, dv_n, dw_n, rt_1, rt_b, rt_20, rt_21, okb_0, okb_1, okb_b, nar_0, nar_1, nar_b, i_0, i_1, j_0, j_1, i_lit, j_lit, i_n, iI_add, iI_sub, iI_mul, iI_neg, jI_add, jI_sub, jI_mul, jI_neg, sh_1, an_1, xo_1, di_p, dj_p, i_64A, i_64, j_32, lq_ge, lq_lt, lq_le, lq_gt, lq_eq, i_lt, i_le, i_eq, j_eq, iI_A, jI_J, iI_b, iI_v, jI_v, ↓reduceIte, ite_true, ite_false, Int.reduceEq, Int.reduceLT, Int.reduceLE, Int.reduceAdd, Int.reduceSub, Int.reduceMul, Int.reduceNeg, not_true_eq_false, not_false_eq_true, t1, t2, t3, t6]
-- the turns
theorem sp_l (hF : F = am_F T0 g) (hg : GG g) (ht : Tp x n) : ∀ (mm i : Nat) (p : Int), i + mm = 20 → 0 ≤ p → p ≤ n → ∃ (ft rt m : Int) (how wd : Int → Int), (ft = -1 ∨ (0 ≤ ft ∧ ft ≤ n)) ∧ (rt = 0 ∨ rt = 1) ∧ ((i : Int) ≤ m ∧ m ≤ 20) ∧ (∀ j : Int, (i : Int) ≤ j → j < m → (0 ≤ how j ∧ how j ≤ 11) ∧ j64 (wd j) ∧ ¬ wd j = 0) ∧
    (∀ (N : am_M) (v : Int), Ct x n N → A N 61 2 = p → A N 63 2 = i → ∃ N' : am_M, F 231 84 [.ref 63, .ref 61, .int (iI v), .int (iI (i : Int))] [] N = some (some (.int (iI ft)), N') ∧ Ch [64, 65] [(61, 2), (63, 1), (63, 2)] N N' ∧ (ft = -1 → A N' 63 1 = rt ∧ A N' 63 2 = m ∧ (∀ j : Int, 0 ≤ j → j < (i : Int) → A N' 64 j = A N 64 j ∧ J N' 65 j = J N 65 j) ∧ ∀ j : Int, (i : Int) ≤ j → j < m → A N' 64 j = how j ∧ J N' 65 j = wd j)) ∧
    (∀ N : am_M, Mt x n N → A N 219 75 = p → A N 219 78 = i → ∃ N1 N' : am_M, F 134 0 [.ref 219] [] N = some (none, N1) ∧ F 236 92 [.ref 219] [] N1 = some (some (.int (iI ft)), N') ∧ Ch [266, 267] [(219, 75), (219, 76), (219, 77), (219, 78), (219, 82)] N N' ∧ (ft = -1 → A N' 219 82 = 1 - rt ∧ A N' 219 78 = m ∧ (∀ j : Int, 0 ≤ j → j < (i : Int) → A N' 266 j = A N 266 j ∧ J N' 267 j = J N 267 j) ∧ ∀ j : Int, (i : Int) ≤ j → j < m → A N' 266 j = how j ∧ J N' 267 j = wd j)) := by
  have hn := ht.1
  intro mm
  induction mm with
  | zero =>
    intro i p hi p0 p1
    have u20 : ¬ 20 < (i : Int) := by omega
    have v20 : 20 ≤ (i : Int) := by omega
    have i20 : (i : Int) = 20 := by omega
    obtain ⟨a, s1, z1⟩ := Skp.ex ht (n - p).toNat p (by omega) p0
    have s1' := s1.1
    obtain ⟨e, W, s2, z2⟩ := Wrd.ex ht (p := a) (by omega) z1
    have s2' := s2.1
    have wr := s2.r
    obtain ⟨wr1, wr2⟩ := wr
    by_cases k : W = 7562612
    · subst k
      obtain ⟨ft, rt, o1, o2, oc, om⟩ := sp_sd hF hg ht (p := e) (by omega) z2
      refine ⟨ft, rt, i, fun _ => 0, fun _ => 0, o1, o2, by omega, fun j j0 j1 => by omega, fun N v hc hp hi => ?_, fun N hm hp hi => ?_⟩
      · obtain ⟨N1, t1, t2, t3⟩ := c_skp hF hg ht hc hp p0 s1 z1
        obtain ⟨N2, u1, u2, u3⟩ := c_word hF hg ht (hc.ch (t2.mono rfl)) t3 (by omega) s2 z2
        have c2 := t2.trans u2
        obtain ⟨N3, y1, y2, y3⟩ := oc N2 (hc.ch (c2.mono rfl)) u3
        have c3 : Ch [] [(61, 2), (63, 1)] N N3 := (c2.mono rfl).trans y2
        refine ⟨N3, ?_, c3.mono rfl, fun h => ⟨y3 h, (c3.f (a := 63) (z := 2) rfl).trans hi, fun j j0 j1 => ⟨c3.a rfl, c3.j rfl rfl⟩, fun j j0 j1 => by omega⟩⟩
        refine s_Speech_readFrom_84 hF hg ?_
        simp (config := { maxSteps := 1000000 }) (disch := (first | omega | decide | assumption)) only [ltm_s, ok_n, rd_i, rd_j, fd_i, fd_j, wr_i, wr_j, fw_i, fw_j, ci_s, cj_s, cv_s, dv_n, dw_n, rt_1, rt_b, rt_20, rt_21, okb_0, okb_1, okb_b, nar_0, nar_1, nar_b, i_0, i_1, j_0, j_1, i_lit, j_lit, i_n, iI_add, iI_sub, iI_mul, iI_neg, jI_add, jI_sub, jI_mul, jI_neg, sh_1, an_1, xo_1, di_p, dj_p, i_64A, i_64, j_32, lq_ge, lq_lt, lq_le, lq_gt, lq_eq, i_lt, i_le, i_eq, j_eq, iI_A, jI_J, iI_b, iI_v, jI_v, ↓reduceIte, ite_true, ite_false, Int.reduceEq, Int.reduceLT, Int.reduceLE, Int.reduceAdd, Int.reduceSub, Int.reduceMul, Int.reduceNeg, not_true_eq_false, not_false_eq_true, u20, t1, u1, y1]
      · obtain ⟨N1, t1, t2, t3, t4, t5⟩ := m_reads hF hg ht hm hp p0 s1 z1 s2 z2
        obtain ⟨N3, y1, y2, y3⟩ := om N1 (hm.c3 (t2.mono rfl)) t3 t5
        have c3 : Ch [] [(219, 75), (219, 76), (219, 77), (219, 82)] N N3 := (t2.mono rfl).trans y2
        exact ⟨N1, N3, t1, y1, c3.mono rfl, fun h => ⟨y3 h, (c3.f (a := 219) (z := 78) rfl).trans hi, fun j j0 j1 => ⟨c3.a rfl, c3.j rfl rfl⟩, fun j j0 j1 => by omega⟩⟩
    · refine ⟨a, 0, i, fun _ => 0, fun _ => 0, by omega, Or.inl rfl, by omega, fun j j0 j1 => by omega, fun N v hc hp hi => ?_, fun N hm hp hi => ?_⟩
      · obtain ⟨N1, t1, t2, t3⟩ := c_skp hF hg ht hc hp p0 s1 z1
        obtain ⟨N2, u1, u2, u3⟩ := c_word hF hg ht (hc.ch (t2.mono rfl)) t3 (by omega) s2 z2
        have c2 := t2.trans u2
        have a0 : ¬ a < 0 := by omega
        refine ⟨N2, ?_, c2.mono rfl, fun h => by omega⟩
        refine s_Speech_readFrom_84 hF hg ?_
        simp (config := { maxSteps := 1000000 }) (disch := (first | omega | decide | assumption)) only [ltm_s, ok_n, rd_i, rd_j, fd_i, fd_j, wr_i, wr_j, fw_i, fw_j, ci_s, cj_s, cv_s, dv_n, dw_n, rt_1, rt_b, rt_20, rt_21, okb_0, okb_1, okb_b, nar_0, nar_1, nar_b, i_0, i_1, j_0, j_1, i_lit, j_lit, i_n, iI_add, iI_sub, iI_mul, iI_neg, jI_add, jI_sub, jI_mul, jI_neg, sh_1, an_1, xo_1, di_p, dj_p, i_64A, i_64, j_32, lq_ge, lq_lt, lq_le, lq_gt, lq_eq, i_lt, i_le, i_eq, j_eq, iI_A, jI_J, iI_b, iI_v, jI_v, ↓reduceIte, ite_true, ite_false, Int.reduceEq, Int.reduceLT, Int.reduceLE, Int.reduceAdd, Int.reduceSub, Int.reduceMul, Int.reduceNeg, not_true_eq_false, not_false_eq_true, u20, t1, u1, k, v20, t3, a0]
      · obtain ⟨N1, t1, t2, t3, t4, t5⟩ := m_reads hF hg ht hm hp p0 s1 z1 s2 z2
        have i1 := m_isSaid hF hg t5 (by omega) (by omega) (w_set (N := N1) hF hg)
        rw [bI_f k] at i1
        have e78 : A N1 219 78 = 20 := by rw [← i20, ← hi]; exact t2.f (a := 219) (z := 78) rfl
        refine ⟨N1, N1, t1, ?_, t2.mono rfl, fun h => by omega⟩
        refine s_Model_saidRead_92 hF hg ?_
        simp (config := { maxSteps := 1000000 }) (disch := (first | omega | decide | assumption)) only [ltm_s, ok_n, rd_i, rd_j, fd_i, fd_j, wr_i, wr_j, fw_i, fw_j, ci_s, cj_s, cv_s, dv_n, dw_n, rt_1, rt_b, rt_20, rt_21, okb_0, okb_1, okb_b, nar_0, nar_1, nar_b, i_0, i_1, j_0, j_1, i_lit, j_lit, i_n, iI_add, iI_sub, iI_mul, iI_neg, jI_add, jI_sub, jI_mul, jI_neg, sh_1, an_1, xo_1, di_p, dj_p, i_64A, i_64, j_32, lq_ge, lq_lt, lq_le, lq_gt, lq_eq, i_lt, i_le, i_eq, j_eq, iI_A, jI_J, iI_b, iI_v, jI_v, ↓reduceIte, ite_true, ite_false, Int.reduceEq, Int.reduceLT, Int.reduceLE, Int.reduceAdd, Int.reduceSub, Int.reduceMul, Int.reduceNeg, not_true_eq_false, not_false_eq_true, i1, e78, t4]
  | succ mm ih =>
    intro i p hi p0 p1
    have u20 : ¬ 20 < (i : Int) := by omega
    have v20 : ¬ 20 ≤ (i : Int) := by omega
    have x20 : ¬ (i : Int) = 20 := by omega
    obtain ⟨a, s1, z1⟩ := Skp.ex ht (n - p).toNat p (by omega) p0
    have s1' := s1.1
    obtain ⟨e, W, s2, z2⟩ := Wrd.ex ht (p := a) (by omega) z1
    have s2' := s2.1
    have wr := s2.r
    obtain ⟨wr1, wr2⟩ := wr
    by_cases k : W = 7562612
    · subst k
      obtain ⟨ft, rt, o1, o2, oc, om⟩ := sp_sd hF hg ht (p := e) (by omega) z2
      refine ⟨ft, rt, i, fun _ => 0, fun _ => 0, o1, o2, by omega, fun j j0 j1 => by omega, fun N v hc hp hi => ?_, fun N hm hp hi => ?_⟩
      · obtain ⟨N1, t1, t2, t3⟩ := c_skp hF hg ht hc hp p0 s1 z1
        obtain ⟨N2, u1, u2, u3⟩ := c_word hF hg ht (hc.ch (t2.mono rfl)) t3 (by omega) s2 z2
        have c2 := t2.trans u2
        obtain ⟨N3, y1, y2, y3⟩ := oc N2 (hc.ch (c2.mono rfl)) u3
        have c3 : Ch [] [(61, 2), (63, 1)] N N3 := (c2.mono rfl).trans y2
        refine ⟨N3, ?_, c3.mono rfl, fun h => ⟨y3 h, (c3.f (a := 63) (z := 2) rfl).trans hi, fun j j0 j1 => ⟨c3.a rfl, c3.j rfl rfl⟩, fun j j0 j1 => by omega⟩⟩
        refine s_Speech_readFrom_84 hF hg ?_
        simp (config := { maxSteps := 1000000 }) (disch := (first | omega | decide | assumption)) only [ltm_s, ok_n, rd_i, rd_j, fd_i, fd_j, wr_i, wr_j, fw_i, fw_j, ci_s, cj_s, cv_s, dv_n, dw_n, rt_1, rt_b, rt_20, rt_21, okb_0, okb_1, okb_b, nar_0, nar_1, nar_b, i_0, i_1, j_0, j_1, i_lit, j_lit, i_n, iI_add, iI_sub, iI_mul, iI_neg, jI_add, jI_sub, jI_mul, jI_neg, sh_1, an_1, xo_1, di_p, dj_p, i_64A, i_64, j_32, lq_ge, lq_lt, lq_le, lq_gt, lq_eq, i_lt, i_le, i_eq, j_eq, iI_A, jI_J, iI_b, iI_v, jI_v, ↓reduceIte, ite_true, ite_false, Int.reduceEq, Int.reduceLT, Int.reduceLE, Int.reduceAdd, Int.reduceSub, Int.reduceMul, Int.reduceNeg, not_true_eq_false, not_false_eq_true, u20, t1, u1, y1]
      · obtain ⟨N1, t1, t2, t3, t4, t5⟩ := m_reads hF hg ht hm hp p0 s1 z1 s2 z2
        obtain ⟨N3, y1, y2, y3⟩ := om N1 (hm.c3 (t2.mono rfl)) t3 t5
        have c3 : Ch [] [(219, 75), (219, 76), (219, 77), (219, 82)] N N3 := (t2.mono rfl).trans y2
        exact ⟨N1, N3, t1, y1, c3.mono rfl, fun h => ⟨y3 h, (c3.f (a := 219) (z := 78) rfl).trans hi, fun j j0 j1 => ⟨c3.a rfl, c3.j rfl rfl⟩, fun j j0 j1 => by omega⟩⟩
    · obtain ⟨ok, f0, h, w, e2, o1, o2, o3, oc, om⟩ := sp_tn hF hg ht (q := a) (p := e) (W := W) (i := i) (by omega) (by omega) (by omega) z1 (by omega) z2 ⟨wr1, wr2⟩
      -- both, as far as the turn
      have cl : ∀ (N : am_M) (v : Int), Ct x n N → A N 61 2 = p → A N 63 2 = i → ∃ N1 N2 N3 : am_M, F 162 0 [.ref 61] [] N = some (none, N1) ∧ F 165 0 [.ref 61] [] N1 = some (some (.long (jI W)), N2) ∧ A N1 61 2 = a ∧ F 215 0 [.ref 63, .ref 61, .long (jI W), .int (iI a)] [] N2 = some (some (.int (iI (if ok = 1 then -1 else f0))), N3) ∧ Ch [] [(61, 2)] N N2 ∧ Ch [64, 65] [(61, 2), (63, 2)] N N3 ∧ Ct x n N3 ∧ (ok = 1 → A N3 63 2 = i + 1 ∧ A N3 64 i = h ∧ J N3 65 i = w ∧ A N3 61 2 = e2 ∧ ∀ j : Int, 0 ≤ j → j < i → A N3 64 j = A N 64 j ∧ J N3 65 j = J N 65 j) := fun N v hc hp hi => by
        obtain ⟨N1, t1, t2, t3⟩ := c_skp hF hg ht hc hp p0 s1 z1
        obtain ⟨N2, u1, u2, u3⟩ := c_word hF hg ht (hc.ch (t2.mono rfl)) t3 (by omega) s2 z2
        have c2 := t2.trans u2
        obtain ⟨N3, y1, y2, y3⟩ := oc N2 (hc.ch (c2.mono rfl)) u3 ((c2.f (a := 63) (z := 2) rfl).trans hi)
        have c3 : Ch [64, 65] [(61, 2), (63, 2)] N N3 := (c2.mono rfl).trans y2
        refine ⟨N1, N2, N3, t1, u1, t3, y1, c2, c3, ⟨(c3.f (a := 61) (z := 1) rfl).trans hc.1, fun p p0 p1 => (c3.a rfl).trans (hc.2 p p0 p1)⟩, fun hk => ?_⟩
        obtain ⟨w1, w2, w3, w4, w5⟩ := y3 hk
        exact ⟨w1, w2, w3, w4, fun j j0 j1 => ⟨(w5 j j0 j1).1.trans (c2.a rfl), (w5 j j0 j1).2.trans (c2.j rfl rfl)⟩⟩
      have ml : ∀ N : am_M, Mt x n N → A N 219 75 = p → A N 219 78 = i → ∃ N1 N2 : am_M, F 134 0 [.ref 219] [] N = some (none, N1) ∧ F 120 0 [.ref 219, .int (iI 115), .int (iI 101), .int (iI 116), .int (iI 0), .int (iI 0)] [] N1 = some (some (.int (iI 0)), N1) ∧ A N1 219 78 = i ∧ F 227 0 [.ref 219] [] N1 = some (some (.int (iI ok)), N2) ∧ Ch [266, 267] [(219, 75), (219, 76), (219, 77), (219, 78)] N N2 ∧ Mt x n N2 ∧ (ok = 0 → A N2 219 76 = f0) ∧ (ok = 1 → A N2 219 78 = i + 1 ∧ A N2 266 i = h ∧ J N2 267 i = w ∧ A N2 219 75 = e2 ∧ ∀ j : Int, 0 ≤ j → j < i → A N2 266 j = A N 266 j ∧ J N2 267 j = J N 267 j) := fun N hm hp hi => by
        obtain ⟨N1, t1, t2, t3, t4, t5⟩ := m_reads hF hg ht hm hp p0 s1 z1 s2 z2
        have i1 := m_isSaid hF hg t5 (by omega) (by omega) (w_set (N := N1) hF hg)
        rw [bI_f k] at i1
        have e78 : A N1 219 78 = i := (t2.f (a := 219) (z := 78) rfl).trans hi
        obtain ⟨N2, y1, y2, y3, y4⟩ := om N1 (hm.c3 (t2.mono rfl)) t3 t4 t5 e78
        have c2 : Ch [266, 267] [(219, 75), (219, 76), (219, 77), (219, 78)] N N2 := (t2.mono rfl).trans y2
        refine ⟨N1, N2, t1, i1, e78, y1, c2, hm.c3 (c2.mono rfl), y3, fun hk => ?_⟩
        obtain ⟨w1, w2, w3, w4, w5⟩ := y4 hk
        exact ⟨w1, w2, w3, w4, fun j j0 j1 => ⟨(w5 j j0 j1).1.trans (t2.a rfl), (w5 j j0 j1).2.trans (t2.j rfl rfl)⟩⟩
      rcases o1 with hk | hk
      · subst hk
        refine ⟨f0, 0, i, fun _ => 0, fun _ => 0, Or.inr o2, Or.inl rfl, by omega, fun j j0 j1 => by omega, fun N v hc hp hi => ?_, fun N hm hp hi => ?_⟩
        · obtain ⟨N1, N2, N3, t1, t2, t3, t4, t5, t6, t7, -⟩ := cl N v hc hp hi
          rw [if_neg (by omega)] at t4
          have f00 : ¬ f0 < 0 := by omega
          refine ⟨N3, ?_, t6.mono rfl, fun h => by omega⟩
          refine s_Speech_readFrom_84 hF hg ?_
          simp (config := { maxSteps := 1000000 }) (disch := (first | omega | decide | assumption)) only [ltm_s, ok_n, rd_i, rd_j, fd_i, fd_j, wr_i, wr_j, fw_i, fw_j, ci_s, cj_s, cv_s, dv_n, dw_n, rt_1, rt_b, rt_20, rt_21, okb_0, okb_1, okb_b, nar_0, nar_1, nar_b, i_0, i_1, j_0, j_1, i_lit, j_lit, i_n, iI_add, iI_sub, iI_mul, iI_neg, jI_add, jI_sub, jI_mul, jI_neg, sh_1, an_1, xo_1, di_p, dj_p, i_64A, i_64, j_32, lq_ge, lq_lt, lq_le, lq_gt, lq_eq, i_lt, i_le, i_eq, j_eq, iI_A, jI_J, iI_b, iI_v, jI_v, ↓reduceIte, ite_true, ite_false, Int.reduceEq, Int.reduceLT, Int.reduceLE, Int.reduceAdd, Int.reduceSub, Int.reduceMul, Int.reduceNeg, not_true_eq_false, not_false_eq_true, u20, v20, t1, t2, t3, k, t4, f00]
        · obtain ⟨N1, N2, t1, t2, t3, t4, t5, t6, t7, -⟩ := ml N hm hp hi
          have t7 := t7 rfl
          refine ⟨N1, N2, t1, ?_, t5.mono rfl, fun h => by omega⟩
          refine s_Model_saidRead_92 hF hg ?_
          simp (config := { maxSteps := 1000000 }) (disch := (first | omega | decide | assumption)) only [ltm_s, ok_n, rd_i, rd_j, fd_i, fd_j, wr_i, wr_j, fw_i, fw_j, ci_s, cj_s, cv_s, dv_n, dw_n, rt_1, rt_b, rt_20, rt_21, okb_0, okb_1, okb_b, nar_0, nar_1, nar_b, i_0, i_1, j_0, j_1, i_lit, j_lit, i_n, iI_add, iI_sub, iI_mul, iI_neg, jI_add, jI_sub, jI_mul, jI_neg, sh_1, an_1, xo_1, di_p, dj_p, i_64A, i_64, j_32, lq_ge, lq_lt, lq_le, lq_gt, lq_eq, i_lt, i_le, i_eq, j_eq, iI_A, jI_J, iI_b, iI_v, jI_v, ↓reduceIte, ite_true, ite_false, Int.reduceEq, Int.reduceLT, Int.reduceLE, Int.reduceAdd, Int.reduceSub, Int.reduceMul, Int.reduceNeg, not_true_eq_false, not_false_eq_true, t2, t3, x20, t4, t7]
      · subst hk
        obtain ⟨o31, o32, o33, o34, o35⟩ := o3 rfl
        obtain ⟨ft, rt, m, how, wd, q1, q2, q3, q4, qc, qm⟩ := ih (i + 1) e2 (by omega) o34 o35
        have es : ((i + 1 : Nat) : Int) = i + 1 := by omega
        refine ⟨ft, rt, m, fun j => if j = i then h else how j, fun j => if j = i then w else wd j, q1, q2, by omega, fun j j0 j1 => ?_, fun N v hc hp hi => ?_, fun N hm hp hi => ?_⟩
        · dsimp only
          by_cases ej : j = i
          · rw [if_pos ej, if_pos ej]; exact ⟨o31, o32, o33⟩
          · rw [if_neg ej, if_neg ej]; exact q4 j (by omega) j1
        · obtain ⟨N1, N2, N3, t1, t2, t3, t4, t5, t6, t7, t8⟩ := cl N v hc hp hi
          rw [if_pos rfl] at t4
          obtain ⟨b1, b2, b3, b4, b5⟩ := t8 rfl
          obtain ⟨N4, y1, y2, y3⟩ := qc N3 a t7 b4 (by rw [b1, es])
          rw [es] at y1
          refine ⟨N4, ?_, (t6.mono rfl).trans y2, fun hf => ?_⟩
          · refine s_Speech_readFrom_84 hF hg ?_
            simp (config := { maxSteps := 1000000 }) (disch := (first | omega | decide | assumption)) only [ltm_s, ok_n, rd_i, rd_j, fd_i, fd_j, wr_i, wr_j, fw_i, fw_j, ci_s, cj_s, cv_s, dv_n, dw_n, rt_1, rt_b, rt_20, rt_21, okb_0, okb_1, okb_b, nar_0, nar_1, nar_b, i_0, i_1, j_0, j_1, i_lit, j_lit, i_n, iI_add, iI_sub, iI_mul, iI_neg, jI_add, jI_sub, jI_mul, jI_neg, sh_1, an_1, xo_1, di_p, dj_p, i_64A, i_64, j_32, lq_ge, lq_lt, lq_le, lq_gt, lq_eq, i_lt, i_le, i_eq, j_eq, iI_A, jI_J, iI_b, iI_v, jI_v, ↓reduceIte, ite_true, ite_false, Int.reduceEq, Int.reduceLT, Int.reduceLE, Int.reduceAdd, Int.reduceSub, Int.reduceMul, Int.reduceNeg, not_true_eq_false, not_false_eq_true, u20, v20, t1, t2, t3, k, t4, y1]
          · obtain ⟨d1, d2, d3, d4⟩ := y3 hf
            refine ⟨d1, d2, fun j j0 j1 => ?_, fun j j0 j1 => ?_⟩
            · have u := d3 j j0 (by omega)
              have v := b5 j j0 j1
              exact ⟨u.1.trans v.1, u.2.trans v.2⟩
            · dsimp only
              by_cases ej : j = i
              · rw [if_pos ej, if_pos ej, ej]
                have u := d3 i (by omega) (by omega)
                exact ⟨u.1.trans b2, u.2.trans b3⟩
              · rw [if_neg ej, if_neg ej]; exact d4 j (by omega) j1
        · obtain ⟨N1, N2, t1, t2, t3, t4, t5, t6, -, t8⟩ := ml N hm hp hi
          obtain ⟨b1, b2, b3, b4, b5⟩ := t8 rfl
          obtain ⟨N3, N4, y1, y2, y3, y4⟩ := qm N2 t6 b4 (by rw [b1, es])
          refine ⟨N1, N4, t1, ?_, (t5.mono rfl).trans y3, fun hf => ?_⟩
          · refine s_Model_saidRead_92 hF hg ?_
            simp (config := { maxSteps := 1000000 }) (disch := (first | omega | decide | assumption)) only [ltm_s, ok_n, rd_i, rd_j, fd_i, fd_j, wr_i, wr_j, fw_i, fw_j, ci_s, cj_s, cv_s, dv_n, dw_n, rt_1, rt_b, rt_20, rt_21, okb_0, okb_1, okb_b, nar_0, nar_1, nar_b, i_0, i_1, j_0, j_1, i_lit, j_lit, i_n, iI_add, iI_sub, iI_mul, iI_neg, jI_add, jI_sub, jI_mul, jI_neg, sh_1, an_1, xo_1, di_p, dj_p, i_64A, i_64, j_32, lq_ge, lq_lt, lq_le, lq_gt, lq_eq, i_lt, i_le, i_eq, j_eq, iI_A, jI_J, iI_b, iI_v, jI_v, ↓reduceIte, ite_true, ite_false, Int.reduceEq, Int.reduceLT, Int.reduceLE, Int.reduceAdd, Int.reduceSub, Int.reduceMul, Int.reduceNeg, not_true_eq_false, not_false_eq_true, t2, t3, x20, t4, y1]
            exact y2
          · obtain ⟨d1, d2, d3, d4⟩ := y4 hf
            refine ⟨d1, d2, fun j j0 j1 => ?_, fun j j0 j1 => ?_⟩
            · have u := d3 j j0 (by omega)
              have v := b5 j j0 j1
              exact ⟨u.1.trans v.1, u.2.trans v.2⟩
            · dsimp only
              by_cases ej : j = i
              · rw [if_pos ej, if_pos ej, ej]
                have u := d3 i (by omega) (by omega)
                exact ⟨u.1.trans b2, u.2.trans b3⟩
              · rw [if_neg ej, if_neg ej]; exact d4 j (by omega) j1
-- the whole
theorem sp_all (hF : F = am_F T0 g) (hg : GG g) (ht : Tp x n) : ∃ (ft fd rt m : Int) (how wd : Int → Int), (ft = -1 ∨ (0 ≤ ft ∧ ft ≤ n)) ∧ (fd = 0 ∨ fd = 1) ∧ (rt = 0 ∨ rt = 1) ∧ (0 ≤ m ∧ m ≤ 20) ∧ (∀ j : Int, 0 ≤ j → j < m → (0 ≤ how j ∧ how j ≤ 11) ∧ j64 (wd j) ∧ ¬ wd j = 0) ∧
    (∀ N : am_M, Ct x n N → ∃ N' : am_M, F 231 0 [.ref 63, .ref 61] [] N = some (some (.int (iI ft)), N') ∧ Ch [64, 65] [(61, 2), (63, 0), (63, 1), (63, 2)] N N' ∧ (ft = -1 → A N' 63 0 = fd ∧ A N' 63 1 = rt ∧ A N' 63 2 = m ∧ ∀ j : Int, 0 ≤ j → j < m → A N' 64 j = how j ∧ J N' 65 j = wd j)) ∧
    (∀ N : am_M, Mt x n N → ∃ N' : am_M, F 236 0 [.ref 219] [] N = some (some (.int (iI ft)), N') ∧ Ch [266, 267] [(219, 75), (219, 76), (219, 77), (219, 78), (219, 81), (219, 82)] N N' ∧ (ft = -1 → A N' 219 81 = 1 - fd ∧ A N' 219 82 = 1 - rt ∧ A N' 219 78 = m ∧ ∀ j : Int, 0 ≤ j → j < m → A N' 266 j = how j ∧ J N' 267 j = wd j)) := by
  have hn := ht.1
  obtain ⟨a, s1, z1⟩ := Skp.ex ht n.toNat 0 (by omega) (Int.le_refl _)
  have s1' := s1.1
  obtain ⟨e, W, s2, z2⟩ := Wrd.ex ht (p := a) (by omega) z1
  have s2' := s2.1
  have wr := s2.r
  obtain ⟨wr1, wr2⟩ := wr
  obtain ⟨b, s3, z3⟩ := Skp.ex ht (n - e).toNat e (by omega) (by omega)
  have s3' := s3.1
  obtain ⟨d, V, s4, z4⟩ := Wrd.ex ht (p := b) (by omega) z3
  have s4' := s4.1
  have vr := s4.r
  obtain ⟨vr1, vr2⟩ := vr
  have cl : ∀ N : am_M, Ct x n N → ∃ Y N1 N2 : am_M, Y = W_ (W_ N 63 2 0) 61 2 0 ∧ F 162 0 [.ref 61] [] Y = some (none, N1) ∧ A N1 61 2 = a ∧ F 165 0 [.ref 61] [] N1 = some (some (.long (jI W)), N2) ∧ Ct x n N2 ∧ A N2 61 2 = e ∧ A N2 63 2 = 0 ∧ Ch [64, 65] [(61, 2), (63, 0), (63, 1), (63, 2)] N N2 := fun N hc => by
    obtain ⟨Y, eY⟩ : ∃ y : am_M, y = W_ (W_ N 63 2 0) 61 2 0 := ⟨_, rfl⟩
    have cY : Ch [64, 65] [(61, 2), (63, 0), (63, 1), (63, 2)] N Y := by rw [eY]; exact (Ch.refl.wm (Or.inr (by decide))).wm (Or.inr (by decide))
    have hY : Ct x n Y := ⟨(cY.f (a := 61) (z := 1) rfl).trans hc.1, fun p p0 p1 => (cY.a rfl).trans (hc.2 p p0 p1)⟩
    have y2 : A Y 61 2 = 0 := by rw [eY]; exact A_Ws (by omega) (by omega)
    have y3 : A Y 63 2 = 0 := by rw [eY, A_Wn (by decide)]; exact A_Ws (by omega) (by omega)
    obtain ⟨N1, t1, t2, t3⟩ := c_skp hF hg ht hY y2 (Int.le_refl _) s1 z1
    obtain ⟨N2, u1, u2, u3⟩ := c_word hF hg ht (hY.ch (t2.mono rfl)) t3 (by omega) s2 z2
    have c2 := t2.trans u2
    exact ⟨Y, N1, N2, eY, t1, t3, u1, hY.ch (c2.mono rfl), u3, (c2.f (a := 63) (z := 2) rfl).trans y3, cY.trans (c2.mono rfl)⟩
  have ml : ∀ N : am_M, Mt x n N → ∃ Y N1 : am_M, Y = W_ (W_ N 219 75 0) 219 78 0 ∧ F 134 0 [.ref 219] [] Y = some (none, N1) ∧ F 120 0 [.ref 219, .int (iI 108), .int (iI 101), .int (iI 97), .int (iI 118), .int (iI 101)] [] N1 = some (some (.int (iI (bI (W = 465557354085)))), N1) ∧ Mt x n N1 ∧ A N1 219 75 = e ∧ A N1 219 76 = a ∧ A N1 219 78 = 0 ∧ Ch [266, 267] [(219, 75), (219, 76), (219, 77), (219, 78), (219, 81), (219, 82)] N N1 := fun N hm => by
    obtain ⟨Y, eY⟩ : ∃ y : am_M, y = W_ (W_ N 219 75 0) 219 78 0 := ⟨_, rfl⟩
    have cY : Ch [266, 267] [(219, 75), (219, 76), (219, 77), (219, 78), (219, 81), (219, 82)] N Y := by rw [eY]; exact (Ch.refl.wm (Or.inr (by decide))).wm (Or.inr (by decide))
    have hY : Mt x n Y := hm.c3 cY
    have y2 : A Y 219 75 = 0 := by rw [eY, A_Wo (by omega) (by omega) (by omega)]; exact A_Ws (by omega) (by omega)
    have y3 : A Y 219 78 = 0 := by rw [eY]; exact A_Ws (by omega) (by omega)
    obtain ⟨N1, t1, t2, t3, t4, t5⟩ := m_reads hF hg ht hY y2 (Int.le_refl _) s1 z1 s2 z2
    exact ⟨Y, N1, eY, t1, m_isSaid hF hg t5 (by omega) (by omega) (w_leave (N := N1) hF hg), hY.c3 (t2.mono rfl), t3, t4, (t2.f (a := 219) (z := 78) rfl).trans y3, cY.trans (t2.mono rfl)⟩
  by_cases k : W = 465557354085
  · have k' := eq_true k
    have bk := bI_t k
    have cv : ∀ N2 : am_M, Ct x n N2 → A N2 61 2 = e → A N2 63 2 = 0 → ∃ N3 N4 : am_M, F 162 0 [.ref 61] [] N2 = some (none, N3) ∧ A N3 61 2 = b ∧ F 165 0 [.ref 61] [] N3 = some (some (.long (jI V)), N4) ∧ Ct x n N4 ∧ A N4 61 2 = d ∧ A N4 63 2 = 0 ∧ Ch [] [(61, 2)] N2 N4 := fun N2 hc hp h2 => by
      obtain ⟨N3, t1, t2, t3⟩ := c_skp hF hg ht hc hp (by omega) s3 z3
      obtain ⟨N4, u1, u2, u3⟩ := c_word hF hg ht (hc.ch (t2.mono rfl)) t3 (by omega) s4 z4
      have c2 := t2.trans u2
      exact ⟨N3, N4, t1, t3, u1, hc.ch (c2.mono rfl), u3, (c2.f (a := 63) (z := 2) rfl).trans h2, c2⟩
    by_cases q : V = 30064 ∨ V = 1685026670
    · -- up, down
      obtain ⟨fd, ef⟩ : ∃ fd : Int, fd = (if V = 30064 then 0 else 1) := ⟨_, rfl⟩
      obtain ⟨ft, rt, m, how, wd, q1, q2, q3, q4, qc, qm⟩ := sp_l hF hg ht 20 0 d (by omega) (by omega) z4
      have z0 : ((0 : Nat) : Int) = 0 := rfl
      rw [z0] at q3 q4 qc qm
      have cW : ∀ N4 : am_M, Ct x n N4 → A N4 61 2 = d → A N4 63 2 = 0 → ∃ N5 N6 : am_M, N5 = W_ N4 63 0 fd ∧ F 231 84 [.ref 63, .ref 61, .int (iI b), .int (iI 0)] [] N5 = some (some (.int (iI ft)), N6) ∧ Ch [64, 65] [(61, 2), (63, 0), (63, 1), (63, 2)] N4 N6 ∧ (ft = -1 → A N6 63 0 = fd ∧ A N6 63 1 = rt ∧ A N6 63 2 = m ∧ ∀ j : Int, 0 ≤ j → j < m → A N6 64 j = how j ∧ J N6 65 j = wd j) := fun N4 hc hp h2 => by
        obtain ⟨N5, e5⟩ : ∃ y : am_M, y = W_ N4 63 0 fd := ⟨_, rfl⟩
        have c5 : Ch [64, 65] [(61, 2), (63, 0), (63, 1), (63, 2)] N4 N5 := by rw [e5]; exact Ch.refl.wm (Or.inr (by decide))
        have hc5 : Ct x n N5 := ⟨(c5.f (a := 61) (z := 1) rfl).trans hc.1, fun p p0 p1 => (c5.a rfl).trans (hc.2 p p0 p1)⟩
        have fr : fd = 0 ∨ fd = 1 := by rw [ef]; split <;> omega
        have g0 : A N5 63 0 = fd := by rw [e5]; exact A_Ws (by omega) (by omega)
        obtain ⟨N6, y1, y2, y3⟩ := qc N5 b hc5 (by rw [e5, A_Wn (by decide)]; exact hp) (by rw [e5, A_Wo (by omega) (by omega) (by omega)]; exact h2)
        refine ⟨N5, N6, e5, y1, c5.trans (y2.mono rfl), fun hf => ?_⟩
        obtain ⟨d1, d2, d3, d4⟩ := y3 hf
        exact ⟨(y2.f (a := 63) (z := 0) rfl).trans g0, d1, d2, d4⟩
      have mW : ∀ N4 : am_M, Mt x n N4 → A N4 219 75 = d → A N4 219 78 = 0 → ∃ N5 N6 N7 : am_M, N5 = W_ N4 219 81 (1 - fd) ∧ F 134 0 [.ref 219] [] N5 = some (none, N6) ∧ F 236 92 [.ref 219] [] N6 = some (some (.int (iI ft)), N7) ∧ Ch [266, 267] [(219, 75), (219, 76), (219, 77), (219, 78), (219, 81), (219, 82)] N4 N7 ∧ (ft = -1 → A N7 219 81 = 1 - fd ∧ A N7 219 82 = 1 - rt ∧ A N7 219 78 = m ∧ ∀ j : Int, 0 ≤ j → j < m → A N7 266 j = how j ∧ J N7 267 j = wd j) := fun N4 hm hp h2 => by
        obtain ⟨N5, e5⟩ : ∃ y : am_M, y = W_ N4 219 81 (1 - fd) := ⟨_, rfl⟩
        have c5 : Ch [266, 267] [(219, 75), (219, 76), (219, 77), (219, 78), (219, 81), (219, 82)] N4 N5 := by rw [e5]; exact Ch.refl.wm (Or.inr (by decide))
        have fr : fd = 0 ∨ fd = 1 := by rw [ef]; split <;> omega
        have g0 : A N5 219 81 = 1 - fd := by rw [e5]; exact A_Ws (by omega) (by omega)
        obtain ⟨N6, N7, y1, y2, y3, y4⟩ := qm N5 (hm.c3 c5) (by rw [e5, A_Wo (by omega) (by omega) (by omega)]; exact hp) (by rw [e5, A_Wo (by omega) (by omega) (by omega)]; exact h2)
        refine ⟨N5, N6, N7, e5, y1, y2, c5.trans (y3.mono rfl), fun hf => ?_⟩
        obtain ⟨d1, d2, d3, d4⟩ := y4 hf
        exact ⟨(y3.f (a := 219) (z := 81) rfl).trans g0, d1, d2, d4⟩
      have fr : fd = 0 ∨ fd = 1 := by rw [ef]; split <;> omega
      refine ⟨ft, fd, rt, m, how, wd, q1, fr, q2, q3, q4, fun N hc => ?_, fun N hm => ?_⟩
      · obtain ⟨Y, N1, N2, y1, y2, y3, y4, y5, y6, y7, y8⟩ := cl N hc
        obtain ⟨N3, N4, t1, t2, t3, t4, t5, t6, t7⟩ := cv N2 y5 y6 y7
        obtain ⟨N5, N6, u1, u2, u3, u4⟩ := cW N4 t4 t5 t6
        refine ⟨N6, ?_, (y8.trans (t7.mono rfl)).trans u3, u4⟩
        rcases q with q | q
        · have qn : ¬ V = 1685026670 := by omega
          rw [if_pos q] at ef
          have q := eq_true q
          subst ef
          refine s_Speech_readFrom hF hg ?_
          simp (config := { maxSteps := 1000000 }) (disch := (first | omega | decide | assumption)) only [ltm_s, ok_n, rd_i, rd_j, fd_i, fd_j, wr_i, wr_j, fw_i, fw_j, ci_s, cj_s, cv_s, dv_n, dw_n, rt_1, rt_b, rt_20, rt_21, okb_0, okb_1, okb_b, nar_0, nar_1, nar_b, i_0, i_1, j_0, j_1, i_lit, j_lit, i_n, iI_add, iI_sub, iI_mul, iI_neg, jI_add, jI_sub, jI_mul, jI_neg, sh_1, an_1, xo_1, di_p, dj_p, i_64A, i_64, j_32, lq_ge, lq_lt, lq_le, lq_gt, lq_eq, i_lt, i_le, i_eq, j_eq, iI_A, jI_J, iI_b, iI_v, jI_v, ↓reduceIte, ite_true, ite_false, Int.reduceEq, Int.reduceLT, Int.reduceLE, Int.reduceAdd, Int.reduceSub, Int.reduceMul, Int.reduceNeg, not_true_eq_false, not_false_eq_true, y1.symm, y2, y3, y4, k', t1, t2, t3, q, qn, u1.symm]
          exact u2
        · have qn : ¬ V = 30064 := by omega
          rw [if_neg qn] at ef
          have q := eq_true q
          subst ef
          refine s_Speech_readFrom hF hg ?_
          simp (config := { maxSteps := 1000000 }) (disch := (first | omega | decide | assumption)) only [ltm_s, ok_n, rd_i, rd_j, fd_i, fd_j, wr_i, wr_j, fw_i, fw_j, ci_s, cj_s, cv_s, dv_n, dw_n, rt_1, rt_b, rt_20, rt_21, okb_0, okb_1, okb_b, nar_0, nar_1, nar_b, i_0, i_1, j_0, j_1, i_lit, j_lit, i_n, iI_add, iI_sub, iI_mul, iI_neg, jI_add, jI_sub, jI_mul, jI_neg, sh_1, an_1, xo_1, di_p, dj_p, i_64A, i_64, j_32, lq_ge, lq_lt, lq_le, lq_gt, lq_eq, i_lt, i_le, i_eq, j_eq, iI_A, jI_J, iI_b, iI_v, jI_v, ↓reduceIte, ite_true, ite_false, Int.reduceEq, Int.reduceLT, Int.reduceLE, Int.reduceAdd, Int.reduceSub, Int.reduceMul, Int.reduceNeg, not_true_eq_false, not_false_eq_true, y1.symm, y2, y3, y4, k', t1, t2, t3, q, qn, u1.symm]
          exact u2
      · obtain ⟨Y, N1, y1, y2, y3, y4, y5, y6, y7, y8⟩ := ml N hm
        rw [bk] at y3
        obtain ⟨N4, t1, t2, t3, t4, t5⟩ := m_reads hF hg ht y4 y5 (by omega) s3 z3 s4 z4
        have hm4 := y4.c3 (t2.mono rfl)
        obtain ⟨N5, N6, N7, u1, u2, u3, u4, u5⟩ := mW N4 hm4 t3 ((t2.f (a := 219) (z := 78) rfl).trans y7)
        refine ⟨N7, ?_, (y8.trans (t2.mono rfl)).trans u4, u5⟩
        rcases q with q | q
        · rw [if_pos q] at ef
          have q := eq_true q
          subst ef
          have e1 : (1 : Int) - 0 = 1 := rfl
          rw [e1] at u1
          have g1 : A N5 219 81 = 1 := by rw [u1]; exact A_Ws (by omega) (by omega)
          refine s_Model_saidRead hF hg ?_
          simp (config := { maxSteps := 1000000 }) (disch := (first | omega | decide | assumption)) only [ltm_s, ok_n, rd_i, rd_j, fd_i, fd_j, wr_i, wr_j, fw_i, fw_j, ci_s, cj_s, cv_s, dv_n, dw_n, rt_1, rt_b, rt_20, rt_21, okb_0, okb_1, okb_b, nar_0, nar_1, nar_b, i_0, i_1, j_0, j_1, i_lit, j_lit, i_n, iI_add, iI_sub, iI_mul, iI_neg, jI_add, jI_sub, jI_mul, jI_neg, sh_1, an_1, xo_1, di_p, dj_p, i_64A, i_64, j_32, lq_ge, lq_lt, lq_le, lq_gt, lq_eq, i_lt, i_le, i_eq, j_eq, iI_A, jI_J, iI_b, iI_v, jI_v, ↓reduceIte, ite_true, ite_false, Int.reduceEq, Int.reduceLT, Int.reduceLE, Int.reduceAdd, Int.reduceSub, Int.reduceMul, Int.reduceNeg, not_true_eq_false, not_false_eq_true, y1.symm, y2, y3, t1, t5, q, u1.symm, g1, u2]
          exact u3
        · have qn : ¬ V = 30064 := by omega
          rw [if_neg qn] at ef
          subst ef
          have e1 : (1 : Int) - 1 = 0 := rfl
          rw [e1] at u1
          have g1 : A N5 219 81 = 0 := by rw [u1]; exact A_Ws (by omega) (by omega)
          have j5 : J N5 219 77 = V := by rw [u1, J_W]; exact t5
          have i1 := m_isSaid hF hg j5 (by omega) (by omega) (w_down (N := N5) hF hg)
          rw [bI_t q] at i1
          refine s_Model_saidRead hF hg ?_
          simp (config := { maxSteps := 1000000 }) (disch := (first | omega | decide | assumption)) only [ltm_s, ok_n, rd_i, rd_j, fd_i, fd_j, wr_i, wr_j, fw_i, fw_j, ci_s, cj_s, cv_s, dv_n, dw_n, rt_1, rt_b, rt_20, rt_21, okb_0, okb_1, okb_b, nar_0, nar_1, nar_b, i_0, i_1, j_0, j_1, i_lit, j_lit, i_n, iI_add, iI_sub, iI_mul, iI_neg, jI_add, jI_sub, jI_mul, jI_neg, sh_1, an_1, xo_1, di_p, dj_p, i_64A, i_64, j_32, lq_ge, lq_lt, lq_le, lq_gt, lq_eq, i_lt, i_le, i_eq, j_eq, iI_A, jI_J, iI_b, iI_v, jI_v, ↓reduceIte, ite_true, ite_false, Int.reduceEq, Int.reduceLT, Int.reduceLE, Int.reduceAdd, Int.reduceSub, Int.reduceMul, Int.reduceNeg, not_true_eq_false, not_false_eq_true, y1.symm, y2, y3, t1, t5, qn, u1.symm, g1, i1, u2]
          exact u3
    · have v1 : ¬ V = 30064 := by omega
      have v2 : ¬ V = 1685026670 := by omega
      refine ⟨b, 0, 0, 0, fun _ => 0, fun _ => 0, by omega, Or.inl rfl, Or.inl rfl, by omega, fun j j0 j1 => by omega, fun N hc => ?_, fun N hm => ?_⟩
      · obtain ⟨Y, N1, N2, y1, y2, y3, y4, y5, y6, y7, y8⟩ := cl N hc
        obtain ⟨N3, N4, t1, t2, t3, t4, t5, t6, t7⟩ := cv N2 y5 y6 y7
        refine ⟨N4, ?_, y8.trans (t7.mono rfl), fun h => by omega⟩
        refine s_Speech_readFrom hF hg ?_
        simp (config := { maxSteps := 1000000 }) (disch := (first | omega | decide | assumption)) only [ltm_s, ok_n, rd_i, rd_j, fd_i, fd_j, wr_i, wr_j, fw_i, fw_j, ci_s, cj_s, cv_s, dv_n, dw_n, rt_1, rt_b, rt_20, rt_21, okb_0, okb_1, okb_b, nar_0, nar_1, nar_b, i_0, i_1, j_0, j_1, i_lit, j_lit, i_n, iI_add, iI_sub, iI_mul, iI_neg, jI_add, jI_sub, jI_mul, jI_neg, sh_1, an_1, xo_1, di_p, dj_p, i_64A, i_64, j_32, lq_ge, lq_lt, lq_le, lq_gt, lq_eq, i_lt, i_le, i_eq, j_eq, iI_A, jI_J, iI_b, iI_v, jI_v, ↓reduceIte, ite_true, ite_false, Int.reduceEq, Int.reduceLT, Int.reduceLE, Int.reduceAdd, Int.reduceSub, Int.reduceMul, Int.reduceNeg, not_true_eq_false, not_false_eq_true, y1.symm, y2, y3, y4, k', t1, t2, t3, v1, v2]
      · obtain ⟨Y, N1, y1, y2, y3, y4, y5, y6, y7, y8⟩ := ml N hm
        rw [bk] at y3
        obtain ⟨N4, t1, t2, t3, t4, t5⟩ := m_reads hF hg ht y4 y5 (by omega) s3 z3 s4 z4
        obtain ⟨N5, e5⟩ : ∃ y : am_M, y = W_ N4 219 81 0 := ⟨_, rfl⟩
        have c5 : Ch [266, 267] [(219, 75), (219, 76), (219, 77), (219, 78), (219, 81), (219, 82)] N4 N5 := by rw [e5]; exact Ch.refl.wm (Or.inr (by decide))
        have g1 : A N5 219 81 = 0 := by rw [e5]; exact A_Ws (by omega) (by omega)
        have j5 : J N5 219 77 = V := by rw [e5, J_W]; exact t5
        have e76 : A N5 219 76 = b := by rw [e5, A_Wo (by omega) (by omega) (by omega)]; exact t4
        have i1 := m_isSaid hF hg j5 (by omega) (by omega) (w_down (N := N5) hF hg)
        rw [bI_f v2] at i1
        refine ⟨N5, ?_, (y8.trans (t2.mono rfl)).trans c5, fun h => by omega⟩
        refine s_Model_saidRead hF hg ?_
        simp (config := { maxSteps := 1000000 }) (disch := (first | omega | decide | assumption)) only [ltm_s, ok_n, rd_i, rd_j, fd_i, fd_j, wr_i, wr_j, fw_i, fw_j, ci_s, cj_s, cv_s, dv_n, dw_n, rt_1, rt_b, rt_20, rt_21, okb_0, okb_1, okb_b, nar_0, nar_1, nar_b, i_0, i_1, j_0, j_1, i_lit, j_lit, i_n, iI_add, iI_sub, iI_mul, iI_neg, jI_add, jI_sub, jI_mul, jI_neg, sh_1, an_1, xo_1, di_p, dj_p, i_64A, i_64, j_32, lq_ge, lq_lt, lq_le, lq_gt, lq_eq, i_lt, i_le, i_eq, j_eq, iI_A, jI_J, iI_b, iI_v, jI_v, ↓reduceIte, ite_true, ite_false, Int.reduceEq, Int.reduceLT, Int.reduceLE, Int.reduceAdd, Int.reduceSub, Int.reduceMul, Int.reduceNeg, not_true_eq_false, not_false_eq_true, y1.symm, y2, y3, t1, t5, v1, e5.symm, g1, i1, e76]
  · have bk := bI_f k
    refine ⟨a, 0, 0, 0, fun _ => 0, fun _ => 0, by omega, Or.inl rfl, Or.inl rfl, by omega, fun j j0 j1 => by omega, fun N hc => ?_, fun N hm => ?_⟩
    · obtain ⟨Y, N1, N2, y1, y2, y3, y4, y5, y6, y7, y8⟩ := cl N hc
      refine ⟨N2, ?_, y8, fun h => by omega⟩
      refine s_Speech_readFrom hF hg ?_
      simp (config := { maxSteps := 1000000 }) (disch := (first | omega | decide | assumption)) only [ltm_s, ok_n, rd_i, rd_j, fd_i, fd_j, wr_i, wr_j, fw_i, fw_j, ci_s, cj_s, cv_s, dv_n, dw_n, rt_1, rt_b, rt_20, rt_21, okb_0, okb_1, okb_b, nar_0, nar_1, nar_b, i_0, i_1, j_0, j_1, i_lit, j_lit, i_n, iI_add, iI_sub, iI_mul, iI_neg, jI_add, jI_sub, jI_mul, jI_neg, sh_1, an_1, xo_1, di_p, dj_p, i_64A, i_64, j_32, lq_ge, lq_lt, lq_le, lq_gt, lq_eq, i_lt, i_le, i_eq, j_eq, iI_A, jI_J, iI_b, iI_v, jI_v, ↓reduceIte, ite_true, ite_false, Int.reduceEq, Int.reduceLT, Int.reduceLE, Int.reduceAdd, Int.reduceSub, Int.reduceMul, Int.reduceNeg, not_true_eq_false, not_false_eq_true, y1.symm, y2, y3, y4, k]
    · obtain ⟨Y, N1, y1, y2, y3, y4, y5, y6, y7, y8⟩ := ml N hm
      rw [bk] at y3
      refine ⟨N1, ?_, y8, fun h => by omega⟩
      refine s_Model_saidRead hF hg ?_
      simp (config := { maxSteps := 1000000 }) (disch := (first | omega | decide | assumption)) only [ltm_s, ok_n, rd_i, rd_j, fd_i, fd_j, wr_i, wr_j, fw_i, fw_j, ci_s, cj_s, cv_s, dv_n, dw_n, rt_1, rt_b, rt_20, rt_21, okb_0, okb_1, okb_b, nar_0, nar_1, nar_b, i_0, i_1, j_0, j_1, i_lit, j_lit, i_n, iI_add, iI_sub, iI_mul, iI_neg, jI_add, jI_sub, jI_mul, jI_neg, sh_1, an_1, xo_1, di_p, dj_p, i_64A, i_64, j_32, lq_ge, lq_lt, lq_le, lq_gt, lq_eq, i_lt, i_le, i_eq, j_eq, iI_A, jI_J, iI_b, iI_v, jI_v, ↓reduceIte, ite_true, ite_false, Int.reduceEq, Int.reduceLT, Int.reduceLE, Int.reduceAdd, Int.reduceSub, Int.reduceMul, Int.reduceNeg, not_true_eq_false, not_false_eq_true, y1.symm, y2, y3, y6]
end Sy
