/-! JUNCTIONS at once, by both -/
section Js
variable {M0 M M' : am_M} {g : am_G} {F : am_FT}
/-- a sheet of the one side is that of the other -/
def Sh2 (N N2 : am_M) (s : Int) : Prop := (0 ≤ A N2 260 s ∧ A N2 260 s ≤ 100) ∧ A N (210 + 2 * s.toNat) 1 = A N2 260 s ∧ ∀ i : Int, 0 ≤ i → i < 100 → A N (210 + 2 * s.toNat + 1) i = A N2 261 (100 * s + i)
theorem Sh2.st {N N' N2 N2' : am_M} {s : Int} (s0 : 0 ≤ s) (s3 : s ≤ 3) (h : Sh2 N N2 s) (c : Ch [2, 3, 4, 14, 15] [(1, 3), (1, 17)] N N') (c2 : Ch [220, 221, 222, 244, 245] [(219, 0), (219, 31)] N2 N2') : Sh2 N' N2' s := by
  have e0 : ∀ z, A N' (210 + 2 * s.toNat) z = A N (210 + 2 * s.toNat) z := fun z => c.r (List.range' 210 8) [] rfl (Or.inl (mRg (by omega) (by omega)))
  have e1 : ∀ z, A N' (210 + 2 * s.toNat + 1) z = A N (210 + 2 * s.toNat + 1) z := fun z => c.r (List.range' 210 8) [] rfl (Or.inl (mRg (by omega) (by omega)))
  have e2 : ∀ z, A N2' 260 z = A N2 260 z := fun z => c2.a rfl
  have e3 : ∀ z, A N2' 261 z = A N2 261 z := fun z => c2.a rfl
  unfold Sh2
  simp only [e0, e1, e2, e3]
  exact h
theorem jns_l (hF : F = am_F T0 g) (hg : GG g) {s f n : Int} (s0 : 0 ≤ s) (s3 : s ≤ 3) (f0 : 0 ≤ f) (f1 : f ≤ 100) (n1 : n ≤ 30) : ∀ (m k : Nat) (came : Int) (N N2 : am_M), (k : Int) + m = n → 0 ≤ came → came ≤ (k : Int) → Sj N N2 → Sh2 N N2 s → ∃ (r : Int) (N' N2' : am_M), F 230 68 [.ref 0, .int (iI f), .int (iI n), .ref (210 + 2 * s.toNat), .int (iI came), .int (iI k)] [] N = some (some (.int (iI r)), N') ∧ F 185 64 [.ref 219, .int (iI s), .int (iI f), .int (iI n), .int (iI came), .int (iI k)] [] N2 = some (some (.int (iI r)), N2') ∧ Sj N' N2' ∧ Ch [2, 3, 4, 14, 15] [(1, 3), (1, 17)] N N' ∧ Ch [220, 221, 222, 244, 245] [(219, 0), (219, 31)] N2 N2' ∧ Gj N2 N2' := by
  intro m
  induction m with
  | zero =>
    intro k came N N2 hk h0 h1 hS hs
    have q : n ≤ (k : Int) := by omega
    refine ⟨came, N, N2, ?_, ?_, hS, Ch.refl, Ch.refl, Gj.refl _⟩
    · refine s_RunSayer_junctions_68 hF hg (sh_ok hg s0 s3) ?_
      simp (config := { maxSteps := 1000000 }) (disch := (first | omega | decide | assumption)) only [ltm_s, ok_n, rd_i, rd_j, fd_i, fd_j, wr_i, wr_j, fw_i, fw_j, ci_s, cj_s, cv_s, dv_n, dw_n, rt_1, rt_b, rt_20, rt_21, okb_0, okb_1, okb_b, nar_0, nar_1, nar_b, i_0, i_1, j_0, j_1, i_lit, j_lit, i_n, iI_add, iI_sub, iI_mul, iI_neg, jI_add, jI_sub, jI_mul, jI_neg, sh_1, an_1, xo_1, di_p, dj_p, i_64A, i_64, j_32, lq_ge, lq_lt, lq_le, lq_gt, lq_eq, i_lt, i_le, i_eq, j_eq, iI_A, jI_J, iI_b, iI_v, jI_v, ↓reduceIte, ite_true, ite_false, Int.reduceEq, Int.reduceLT, Int.reduceLE, Int.reduceAdd, Int.reduceSub, Int.reduceMul, Int.reduceNeg, not_true_eq_false, not_false_eq_true, q]
    · refine s_Model_junctions_64 hF hg ?_
      simp (config := { maxSteps := 1000000 }) (disch := (first | omega | decide | assumption)) only [ltm_s, ok_n, rd_i, rd_j, fd_i, fd_j, wr_i, wr_j, fw_i, fw_j, ci_s, cj_s, cv_s, dv_n, dw_n, rt_1, rt_b, rt_20, rt_21, okb_0, okb_1, okb_b, nar_0, nar_1, nar_b, i_0, i_1, j_0, j_1, i_lit, j_lit, i_n, iI_add, iI_sub, iI_mul, iI_neg, jI_add, jI_sub, jI_mul, jI_neg, sh_1, an_1, xo_1, di_p, dj_p, i_64A, i_64, j_32, lq_ge, lq_lt, lq_le, lq_gt, lq_eq, i_lt, i_le, i_eq, j_eq, iI_A, jI_J, iI_b, iI_v, jI_v, ↓reduceIte, ite_true, ite_false, Int.reduceEq, Int.reduceLT, Int.reduceLE, Int.reduceAdd, Int.reduceSub, Int.reduceMul, Int.reduceNeg, not_true_eq_false, not_false_eq_true, q]
  | succ m ih =>
    intro k came N N2 hk h0 h1 hS hs
    have q : ¬ n ≤ (k : Int) := by omega
    have q2 : ¬ f < 0 := by omega
    have q3 : ¬ 100 < f := by omega
    have hs' := hs
    obtain ⟨l1, l2, l3⟩ := hs
    have hr := c_hasRow hF hg (sh_ok hg s0 s3) (M := N) l2 l1.1 l1.2 (i := f + 3 * k) (n := 3) (by omega) (by omega) (by omega) (by omega)
    by_cases q4 : A N2 260 s - 3 < f + 3 * k
    · rw [bI_f (by omega)] at hr
      refine ⟨-12, N, N2, ?_, ?_, hS, Ch.refl, Ch.refl, Gj.refl _⟩
      · refine s_RunSayer_junctions_68 hF hg (sh_ok hg s0 s3) ?_
        simp (config := { maxSteps := 1000000 }) (disch := (first | omega | decide | assumption)) only [ltm_s, ok_n, rd_i, rd_j, fd_i, fd_j, wr_i, wr_j, fw_i, fw_j, ci_s, cj_s, cv_s, dv_n, dw_n, rt_1, rt_b, rt_20, rt_21, okb_0, okb_1, okb_b, nar_0, nar_1, nar_b, i_0, i_1, j_0, j_1, i_lit, j_lit, i_n, iI_add, iI_sub, iI_mul, iI_neg, jI_add, jI_sub, jI_mul, jI_neg, sh_1, an_1, xo_1, di_p, dj_p, i_64A, i_64, j_32, lq_ge, lq_lt, lq_le, lq_gt, lq_eq, i_lt, i_le, i_eq, j_eq, iI_A, jI_J, iI_b, iI_v, jI_v, ↓reduceIte, ite_true, ite_false, Int.reduceEq, Int.reduceLT, Int.reduceLE, Int.reduceAdd, Int.reduceSub, Int.reduceMul, Int.reduceNeg, not_true_eq_false, not_false_eq_true, q, q2, q3, hr]
      · refine s_Model_junctions_64 hF hg ?_
        simp (config := { maxSteps := 1000000 }) (disch := (first | omega | decide | assumption)) only [ltm_s, ok_n, rd_i, rd_j, fd_i, fd_j, wr_i, wr_j, fw_i, fw_j, ci_s, cj_s, cv_s, dv_n, dw_n, rt_1, rt_b, rt_20, rt_21, okb_0, okb_1, okb_b, nar_0, nar_1, nar_b, i_0, i_1, j_0, j_1, i_lit, j_lit, i_n, iI_add, iI_sub, iI_mul, iI_neg, jI_add, jI_sub, jI_mul, jI_neg, sh_1, an_1, xo_1, di_p, dj_p, i_64A, i_64, j_32, lq_ge, lq_lt, lq_le, lq_gt, lq_eq, i_lt, i_le, i_eq, j_eq, iI_A, jI_J, iI_b, iI_v, jI_v, ↓reduceIte, ite_true, ite_false, Int.reduceEq, Int.reduceLT, Int.reduceLE, Int.reduceAdd, Int.reduceSub, Int.reduceMul, Int.reduceNeg, not_true_eq_false, not_false_eq_true, q, q2, q4]
    · rw [bI_t (by omega)] at hr
      have q5 : f ≤ f + 3 * k := by omega
      have v0 := l3 (f + 3 * k) (by omega) (by omega)
      have v1 := l3 (f + 3 * k + 1) (by omega) (by omega)
      have v2 := l3 (f + 3 * k + 2) (by omega) (by omega)
      rw [show 100 * s + (f + 3 * (k : Int) + 1) = 100 * s + (f + 3 * k) + 1 by omega] at v1
      rw [show 100 * s + (f + 3 * (k : Int) + 2) = 100 * s + (f + 3 * k) + 2 by omega] at v2
      obtain ⟨r, N', N2', p1, p2, p3, p4, p5, p6, p7⟩ := jn_step hF hg hS (A_lo N2 261 (100 * s + (f + 3 * k))) (A_hi N2 261 (100 * s + (f + 3 * k))) (A_lo N2 261 (100 * s + (f + 3 * k) + 1)) (A_hi N2 261 (100 * s + (f + 3 * k) + 1)) (A_lo N2 261 (100 * s + (f + 3 * k) + 2)) (A_hi N2 261 (100 * s + (f + 3 * k) + 2))
      have hk1 : (k : Int) + 1 = ((k + 1 : Nat) : Int) := by omega
      by_cases qr : r < 0
      · obtain ⟨r2, N3, N4, u1, u2, u3, u4, u5, u6⟩ := ih (k + 1) came N' N2' (by omega) h0 (by omega) p3 (hs'.st s0 s3 p5 p6)
        refine ⟨r2, N3, N4, ?_, ?_, u3, p5.trans u4, p6.trans u5, p7.trans u6⟩
        · refine s_RunSayer_junctions_68 hF hg (sh_ok hg s0 s3) ?_
          simp (config := { maxSteps := 1000000 }) (disch := (first | omega | decide | assumption)) only [ltm_s, ok_n, rd_i, rd_j, fd_i, fd_j, wr_i, wr_j, fw_i, fw_j, ci_s, cj_s, cv_s, dv_n, dw_n, rt_1, rt_b, rt_20, rt_21, okb_0, okb_1, okb_b, nar_0, nar_1, nar_b, i_0, i_1, j_0, j_1, i_lit, j_lit, i_n, iI_add, iI_sub, iI_mul, iI_neg, jI_add, jI_sub, jI_mul, jI_neg, sh_1, an_1, xo_1, di_p, dj_p, i_64A, i_64, j_32, lq_ge, lq_lt, lq_le, lq_gt, lq_eq, i_lt, i_le, i_eq, j_eq, iI_A, jI_J, iI_b, iI_v, jI_v, ↓reduceIte, ite_true, ite_false, Int.reduceEq, Int.reduceLT, Int.reduceLE, Int.reduceAdd, Int.reduceSub, Int.reduceMul, Int.reduceNeg, not_true_eq_false, not_false_eq_true, q, q2, q3, hr, v0, v1, v2, p1, qr, hk1, u1]
        · refine s_Model_junctions_64 hF hg ?_
          simp (config := { maxSteps := 1000000 }) (disch := (first | omega | decide | assumption)) only [ltm_s, ok_n, rd_i, rd_j, fd_i, fd_j, wr_i, wr_j, fw_i, fw_j, ci_s, cj_s, cv_s, dv_n, dw_n, rt_1, rt_b, rt_20, rt_21, okb_0, okb_1, okb_b, nar_0, nar_1, nar_b, i_0, i_1, j_0, j_1, i_lit, j_lit, i_n, iI_add, iI_sub, iI_mul, iI_neg, jI_add, jI_sub, jI_mul, jI_neg, sh_1, an_1, xo_1, di_p, dj_p, i_64A, i_64, j_32, lq_ge, lq_lt, lq_le, lq_gt, lq_eq, i_lt, i_le, i_eq, j_eq, iI_A, jI_J, iI_b, iI_v, jI_v, ↓reduceIte, ite_true, ite_false, Int.reduceEq, Int.reduceLT, Int.reduceLE, Int.reduceAdd, Int.reduceSub, Int.reduceMul, Int.reduceNeg, not_true_eq_false, not_false_eq_true, q, q2, q4, q5, p2, qr, hk1, Int.add_zero, u2]
      · obtain ⟨r2, N3, N4, u1, u2, u3, u4, u5, u6⟩ := ih (k + 1) (came + 1) N' N2' (by omega) (by omega) (by omega) p3 (hs'.st s0 s3 p5 p6)
        refine ⟨r2, N3, N4, ?_, ?_, u3, p5.trans u4, p6.trans u5, p7.trans u6⟩
        · refine s_RunSayer_junctions_68 hF hg (sh_ok hg s0 s3) ?_
          simp (config := { maxSteps := 1000000 }) (disch := (first | omega | decide | assumption)) only [ltm_s, ok_n, rd_i, rd_j, fd_i, fd_j, wr_i, wr_j, fw_i, fw_j, ci_s, cj_s, cv_s, dv_n, dw_n, rt_1, rt_b, rt_20, rt_21, okb_0, okb_1, okb_b, nar_0, nar_1, nar_b, i_0, i_1, j_0, j_1, i_lit, j_lit, i_n, iI_add, iI_sub, iI_mul, iI_neg, jI_add, jI_sub, jI_mul, jI_neg, sh_1, an_1, xo_1, di_p, dj_p, i_64A, i_64, j_32, lq_ge, lq_lt, lq_le, lq_gt, lq_eq, i_lt, i_le, i_eq, j_eq, iI_A, jI_J, iI_b, iI_v, jI_v, ↓reduceIte, ite_true, ite_false, Int.reduceEq, Int.reduceLT, Int.reduceLE, Int.reduceAdd, Int.reduceSub, Int.reduceMul, Int.reduceNeg, not_true_eq_false, not_false_eq_true, q, q2, q3, hr, v0, v1, v2, p1, qr, hk1, u1]
        · refine s_Model_junctions_64 hF hg ?_
          simp (config := { maxSteps := 1000000 }) (disch := (first | omega | decide | assumption)) only [ltm_s, ok_n, rd_i, rd_j, fd_i, fd_j, wr_i, wr_j, fw_i, fw_j, ci_s, cj_s, cv_s, dv_n, dw_n, rt_1, rt_b, rt_20, rt_21, okb_0, okb_1, okb_b, nar_0, nar_1, nar_b, i_0, i_1, j_0, j_1, i_lit, j_lit, i_n, iI_add, iI_sub, iI_mul, iI_neg, jI_add, jI_sub, jI_mul, jI_neg, sh_1, an_1, xo_1, di_p, dj_p, i_64A, i_64, j_32, lq_ge, lq_lt, lq_le, lq_gt, lq_eq, i_lt, i_le, i_eq, j_eq, iI_A, jI_J, iI_b, iI_v, jI_v, ↓reduceIte, ite_true, ite_false, Int.reduceEq, Int.reduceLT, Int.reduceLE, Int.reduceAdd, Int.reduceSub, Int.reduceMul, Int.reduceNeg, not_true_eq_false, not_false_eq_true, q, q2, q4, q5, p2, qr, hk1, u2]
theorem b_junctions (hF : F = am_F T0 g) (hg : GG g) (hI : Inv M) {s t f n : Int} (s1 : -2147483648 ≤ s) (s2 : s < 2147483648) (t1 : -2147483648 ≤ t) (t2 : t < 2147483648) (f1 : -2147483648 ≤ f) (f2 : f < 2147483648) (n1 : -2147483648 ≤ n) (n2 : n < 2147483648) :
    ∃ (r : Int) (M1 M2 : am_M), F 230 0 [.ref 0, .int (iI s), .int (iI t), .int (iI f), .int (iI n)] [] M = some (some (.int (iI r)), M1) ∧ F 185 0 [.ref 219, .int (iI s), .int (iI t), .int (iI f), .int (iI n)] [] M1 = some (some (.int (iI r)), M2) ∧ Inv M2 := by
  have hI' := hI
  obtain ⟨h1, h2, h3, h4, h5, h6, h7, h8, h9, h10, h11, h12, h13, h14, h15, h16, h17, h18, h19, hm, ht⟩ := hI
  have wrong : ∀ r : Int, F 230 0 [.ref 0, .int (iI s), .int (iI t), .int (iI f), .int (iI n)] [] M = some (some (.int (iI r)), M) → F 185 0 [.ref 219, .int (iI s), .int (iI t), .int (iI f), .int (iI n)] [] M = some (some (.int (iI r)), M) → ∃ (r : Int) (M1 M2 : am_M), F 230 0 [.ref 0, .int (iI s), .int (iI t), .int (iI f), .int (iI n)] [] M = some (some (.int (iI r)), M1) ∧ F 185 0 [.ref 219, .int (iI s), .int (iI t), .int (iI f), .int (iI n)] [] M1 = some (some (.int (iI r)), M2) ∧ Inv M2 := fun r p q => ⟨r, M, M, p, q, hI'⟩
  have cs := c_noSheet hF hg (M := M) s1 s2
  have ms : ∀ N : am_M, F 53 0 [.int (iI s), .int 0, .int 3] [] N = some (some (.int (iI (bI (0 ≤ s ∧ s ≤ 3)))), N) := fun N => m_inn (l := 0) (h := 3) hF hg s1 s2 (by omega) (by omega) (by omega) (by omega)
  have ct : F 72 0 [.int (iI t), .int 0, .int 2] [] M = some (some (.int (iI (bI (t < 0 ∨ 2 < t)))), M) := c_outside hF hg (M := M) (v := t) (l := 0) (h := 2) t1 t2 (by omega) (by omega) (by omega) (by omega)
  have mt : ∀ N : am_M, F 53 0 [.int (iI t), .int 0, .int 2] [] N = some (some (.int (iI (bI (0 ≤ t ∧ t ≤ 2)))), N) := fun N => m_inn (l := 0) (h := 2) hF hg t1 t2 (by omega) (by omega) (by omega) (by omega)
  have cn : F 72 0 [.int (iI n), .int 0, .int 30] [] M = some (some (.int (iI (bI (n < 0 ∨ 30 < n)))), M) := c_outside hF hg (M := M) (v := n) (l := 0) (h := 30) n1 n2 (by omega) (by omega) (by omega) (by omega)
  have mn : ∀ N : am_M, F 53 0 [.int (iI n), .int 0, .int 30] [] N = some (some (.int (iI (bI (0 ≤ n ∧ n ≤ 30)))), N) := fun N => m_inn (l := 0) (h := 30) hF hg n1 n2 (by omega) (by omega) (by omega) (by omega)
  by_cases q1 : s < 0 ∨ 3 < s
  · rw [bI_t q1] at cs
    rw [bI_f (by omega)] at ms
    refine wrong (-2) ?_ ?_
    · refine s_RunSayer_junctions hF hg ?_
      refine ci_in cs ?_
      rfl
    · refine s_Model_junctions hF hg ?_
      refine ci_in (ms M) ?_
      rfl
  rw [bI_f q1] at cs
  rw [bI_t (by omega)] at ms
  by_cases q2 : t < 0 ∨ 2 < t
  · rw [bI_t q2] at ct
    rw [bI_f (by omega)] at mt
    refine wrong (-2) ?_ ?_
    · refine s_RunSayer_junctions hF hg ?_
      refine ci_in (cs) ?_
      rw [if_pos (show iI 0 = 0 from rfl)]
      refine ci_in ct ?_
      rfl
    · refine s_Model_junctions hF hg ?_
      refine ci_in (ms M) ?_
      rw [if_neg (show ¬ iI 1 = 0 by decide)]
      refine ci_in (mt M) ?_
      rfl
  rw [bI_f q2] at ct
  rw [bI_t (by omega)] at mt
  by_cases q3 : n < 0 ∨ 30 < n
  · rw [bI_t q3] at cn
    rw [bI_f (by omega)] at mn
    refine wrong (-2) ?_ ?_
    · refine s_RunSayer_junctions hF hg ?_
      refine ci_in (cs) ?_
      rw [if_pos (show iI 0 = 0 from rfl)]
      refine ci_in (ct) ?_
      rw [if_pos (show iI 0 = 0 from rfl)]
      refine ci_in cn ?_
      rfl
    · refine s_Model_junctions hF hg ?_
      refine ci_in (ms M) ?_
      rw [if_neg (show ¬ iI 1 = 0 by decide)]
      refine ci_in (mt M) ?_
      rw [if_neg (show ¬ iI 1 = 0 by decide)]
      refine ci_in (mn M) ?_
      rfl
  rw [bI_f q3] at cn
  rw [bI_t (by omega)] at mn
  have hns : (iI s).toNatClampNeg = s.toNat := iI_n (by omega) (by omega)
  obtain ⟨b1, b2, b3, b4, b5⟩ := h18 s (by omega) (by omega)
  by_cases q4 : A M 259 s = -1
  · refine wrong (-11) ?_ ?_
    · refine s_RunSayer_junctions hF hg ?_
      refine ci_in (cs) ?_
      rw [if_pos (show iI 0 = 0 from rfl)]
      refine ci_in (ct) ?_
      rw [if_pos (show iI 0 = 0 from rfl)]
      refine ci_in (cn) ?_
      rw [if_pos (show iI 0 = 0 from rfl)]
      simp (config := { maxSteps := 1000000 }) (disch := (first | omega | decide | assumption)) only [ltm_s, ok_n, rd_i, rd_j, fd_i, fd_j, wr_i, wr_j, fw_i, fw_j, ci_s, cj_s, cv_s, dv_n, dw_n, rt_1, rt_b, rt_20, rt_21, okb_0, okb_1, okb_b, nar_0, nar_1, nar_b, i_0, i_1, j_0, j_1, i_lit, j_lit, i_n, iI_add, iI_sub, iI_mul, iI_neg, jI_add, jI_sub, jI_mul, jI_neg, sh_1, an_1, xo_1, di_p, dj_p, i_64A, i_64, j_32, lq_ge, lq_lt, lq_le, lq_gt, lq_eq, i_lt, i_le, i_eq, j_eq, iI_A, jI_J, iI_b, iI_v, jI_v, ↓reduceIte, ite_true, ite_false, Int.reduceEq, Int.reduceLT, Int.reduceLE, Int.reduceAdd, Int.reduceSub, Int.reduceMul, Int.reduceNeg, not_true_eq_false, not_false_eq_true, iI_n, rdn_i, rdn_j, wrn_i, wrn_j, b3, eq_true q4]
    · refine s_Model_junctions hF hg ?_
      refine ci_in (ms M) ?_
      rw [if_neg (show ¬ iI 1 = 0 by decide)]
      refine ci_in (mt M) ?_
      rw [if_neg (show ¬ iI 1 = 0 by decide)]
      refine ci_in (mn M) ?_
      rw [if_neg (show ¬ iI 1 = 0 by decide)]
      simp (config := { maxSteps := 1000000 }) (disch := (first | omega | decide | assumption)) only [ltm_s, ok_n, rd_i, rd_j, fd_i, fd_j, wr_i, wr_j, fw_i, fw_j, ci_s, cj_s, cv_s, dv_n, dw_n, rt_1, rt_b, rt_20, rt_21, okb_0, okb_1, okb_b, nar_0, nar_1, nar_b, i_0, i_1, j_0, j_1, i_lit, j_lit, i_n, iI_add, iI_sub, iI_mul, iI_neg, jI_add, jI_sub, jI_mul, jI_neg, sh_1, an_1, xo_1, di_p, dj_p, i_64A, i_64, j_32, lq_ge, lq_lt, lq_le, lq_gt, lq_eq, i_lt, i_le, i_eq, j_eq, iI_A, jI_J, iI_b, iI_v, jI_v, ↓reduceIte, ite_true, ite_false, Int.reduceEq, Int.reduceLT, Int.reduceLE, Int.reduceAdd, Int.reduceSub, Int.reduceMul, Int.reduceNeg, not_true_eq_false, not_false_eq_true, eq_true q4]
  by_cases q5 : A M 259 s = t
  · -- the loops
    have goc : ∀ (r : Int) (N' : am_M), F 230 68 [.ref 0, .int (iI f), .int (iI n), .ref (210 + 2 * s.toNat), .int (iI 0), .int (iI 0)] [] M = some (some (.int (iI r)), N') → F 230 0 [.ref 0, .int (iI s), .int (iI t), .int (iI f), .int (iI n)] [] M = some (some (.int (iI r)), N') := fun r N' h => by
      refine s_RunSayer_junctions hF hg ?_
      refine ci_in (cs) ?_
      rw [if_pos (show iI 0 = 0 from rfl)]
      refine ci_in (ct) ?_
      rw [if_pos (show iI 0 = 0 from rfl)]
      refine ci_in (cn) ?_
      rw [if_pos (show iI 0 = 0 from rfl)]
      simp (config := { maxSteps := 1000000 }) (disch := (first | omega | decide | assumption)) only [ltm_s, ok_n, rd_i, rd_j, fd_i, fd_j, wr_i, wr_j, fw_i, fw_j, ci_s, cj_s, cv_s, dv_n, dw_n, rt_1, rt_b, rt_20, rt_21, okb_0, okb_1, okb_b, nar_0, nar_1, nar_b, i_0, i_1, j_0, j_1, i_lit, j_lit, i_n, iI_add, iI_sub, iI_mul, iI_neg, jI_add, jI_sub, jI_mul, jI_neg, sh_1, an_1, xo_1, di_p, dj_p, i_64A, i_64, j_32, lq_ge, lq_lt, lq_le, lq_gt, lq_eq, i_lt, i_le, i_eq, j_eq, iI_A, jI_J, iI_b, iI_v, jI_v, ↓reduceIte, ite_true, ite_false, Int.reduceEq, Int.reduceLT, Int.reduceLE, Int.reduceAdd, Int.reduceSub, Int.reduceMul, Int.reduceNeg, not_true_eq_false, not_false_eq_true, iI_n, rdn_i, rdn_j, wrn_i, wrn_j, b3, q4, eq_true q5, h]
    have gom : ∀ (N : am_M) (r : Int) (N' : am_M), A N 259 s = A M 259 s → F 185 64 [.ref 219, .int (iI s), .int (iI f), .int (iI n), .int (iI 0), .int (iI 0)] [] N = some (some (.int (iI r)), N') → F 185 0 [.ref 219, .int (iI s), .int (iI t), .int (iI f), .int (iI n)] [] N = some (some (.int (iI r)), N') := fun N r N' h0 h => by
      refine s_Model_junctions hF hg ?_
      refine ci_in (ms N) ?_
      rw [if_neg (show ¬ iI 1 = 0 by decide)]
      refine ci_in (mt N) ?_
      rw [if_neg (show ¬ iI 1 = 0 by decide)]
      refine ci_in (mn N) ?_
      rw [if_neg (show ¬ iI 1 = 0 by decide)]
      simp (config := { maxSteps := 1000000 }) (disch := (first | omega | decide | assumption)) only [ltm_s, ok_n, rd_i, rd_j, fd_i, fd_j, wr_i, wr_j, fw_i, fw_j, ci_s, cj_s, cv_s, dv_n, dw_n, rt_1, rt_b, rt_20, rt_21, okb_0, okb_1, okb_b, nar_0, nar_1, nar_b, i_0, i_1, j_0, j_1, i_lit, j_lit, i_n, iI_add, iI_sub, iI_mul, iI_neg, jI_add, jI_sub, jI_mul, jI_neg, sh_1, an_1, xo_1, di_p, dj_p, i_64A, i_64, j_32, lq_ge, lq_lt, lq_le, lq_gt, lq_eq, i_lt, i_le, i_eq, j_eq, iI_A, jI_J, iI_b, iI_v, jI_v, ↓reduceIte, ite_true, ite_false, Int.reduceEq, Int.reduceLT, Int.reduceLE, Int.reduceAdd, Int.reduceSub, Int.reduceMul, Int.reduceNeg, not_true_eq_false, not_false_eq_true, h0, q4, eq_true q5, h]
    by_cases q6 : f < 0 ∨ 100 < f
    · by_cases q7 : n = 0
      · have q8 : n ≤ 0 := by omega
        refine wrong 0 (goc _ _ ?_) (gom _ _ _ rfl ?_)
        · refine s_RunSayer_junctions_68 hF hg (sh_ok hg (by omega) (by omega)) ?_
          simp (config := { maxSteps := 1000000 }) (disch := (first | omega | decide | assumption)) only [ltm_s, ok_n, rd_i, rd_j, fd_i, fd_j, wr_i, wr_j, fw_i, fw_j, ci_s, cj_s, cv_s, dv_n, dw_n, rt_1, rt_b, rt_20, rt_21, okb_0, okb_1, okb_b, nar_0, nar_1, nar_b, i_0, i_1, j_0, j_1, i_lit, j_lit, i_n, iI_add, iI_sub, iI_mul, iI_neg, jI_add, jI_sub, jI_mul, jI_neg, sh_1, an_1, xo_1, di_p, dj_p, i_64A, i_64, j_32, lq_ge, lq_lt, lq_le, lq_gt, lq_eq, i_lt, i_le, i_eq, j_eq, iI_A, jI_J, iI_b, iI_v, jI_v, ↓reduceIte, ite_true, ite_false, Int.reduceEq, Int.reduceLT, Int.reduceLE, Int.reduceAdd, Int.reduceSub, Int.reduceMul, Int.reduceNeg, not_true_eq_false, not_false_eq_true, q8]
        · refine s_Model_junctions_64 hF hg ?_
          simp (config := { maxSteps := 1000000 }) (disch := (first | omega | decide | assumption)) only [ltm_s, ok_n, rd_i, rd_j, fd_i, fd_j, wr_i, wr_j, fw_i, fw_j, ci_s, cj_s, cv_s, dv_n, dw_n, rt_1, rt_b, rt_20, rt_21, okb_0, okb_1, okb_b, nar_0, nar_1, nar_b, i_0, i_1, j_0, j_1, i_lit, j_lit, i_n, iI_add, iI_sub, iI_mul, iI_neg, jI_add, jI_sub, jI_mul, jI_neg, sh_1, an_1, xo_1, di_p, dj_p, i_64A, i_64, j_32, lq_ge, lq_lt, lq_le, lq_gt, lq_eq, i_lt, i_le, i_eq, j_eq, iI_A, jI_J, iI_b, iI_v, jI_v, ↓reduceIte, ite_true, ite_false, Int.reduceEq, Int.reduceLT, Int.reduceLE, Int.reduceAdd, Int.reduceSub, Int.reduceMul, Int.reduceNeg, not_true_eq_false, not_false_eq_true, q8]
      · have q8 : ¬ n ≤ 0 := by omega
        refine wrong (-12) (goc _ _ ?_) (gom _ _ _ rfl ?_)
        · refine s_RunSayer_junctions_68 hF hg (sh_ok hg (by omega) (by omega)) ?_
          by_cases q9 : f < 0
          · simp (config := { maxSteps := 1000000 }) (disch := (first | omega | decide | assumption)) only [ltm_s, ok_n, rd_i, rd_j, fd_i, fd_j, wr_i, wr_j, fw_i, fw_j, ci_s, cj_s, cv_s, dv_n, dw_n, rt_1, rt_b, rt_20, rt_21, okb_0, okb_1, okb_b, nar_0, nar_1, nar_b, i_0, i_1, j_0, j_1, i_lit, j_lit, i_n, iI_add, iI_sub, iI_mul, iI_neg, jI_add, jI_sub, jI_mul, jI_neg, sh_1, an_1, xo_1, di_p, dj_p, i_64A, i_64, j_32, lq_ge, lq_lt, lq_le, lq_gt, lq_eq, i_lt, i_le, i_eq, j_eq, iI_A, jI_J, iI_b, iI_v, jI_v, ↓reduceIte, ite_true, ite_false, Int.reduceEq, Int.reduceLT, Int.reduceLE, Int.reduceAdd, Int.reduceSub, Int.reduceMul, Int.reduceNeg, not_true_eq_false, not_false_eq_true, q8, q9]
          · have q10 : 100 < f := by omega
            simp (config := { maxSteps := 1000000 }) (disch := (first | omega | decide | assumption)) only [ltm_s, ok_n, rd_i, rd_j, fd_i, fd_j, wr_i, wr_j, fw_i, fw_j, ci_s, cj_s, cv_s, dv_n, dw_n, rt_1, rt_b, rt_20, rt_21, okb_0, okb_1, okb_b, nar_0, nar_1, nar_b, i_0, i_1, j_0, j_1, i_lit, j_lit, i_n, iI_add, iI_sub, iI_mul, iI_neg, jI_add, jI_sub, jI_mul, jI_neg, sh_1, an_1, xo_1, di_p, dj_p, i_64A, i_64, j_32, lq_ge, lq_lt, lq_le, lq_gt, lq_eq, i_lt, i_le, i_eq, j_eq, iI_A, jI_J, iI_b, iI_v, jI_v, ↓reduceIte, ite_true, ite_false, Int.reduceEq, Int.reduceLT, Int.reduceLE, Int.reduceAdd, Int.reduceSub, Int.reduceMul, Int.reduceNeg, not_true_eq_false, not_false_eq_true, q8, q9, q10]
        · refine s_Model_junctions_64 hF hg ?_
          by_cases q9 : f < 0
          · simp (config := { maxSteps := 1000000 }) (disch := (first | omega | decide | assumption)) only [ltm_s, ok_n, rd_i, rd_j, fd_i, fd_j, wr_i, wr_j, fw_i, fw_j, ci_s, cj_s, cv_s, dv_n, dw_n, rt_1, rt_b, rt_20, rt_21, okb_0, okb_1, okb_b, nar_0, nar_1, nar_b, i_0, i_1, j_0, j_1, i_lit, j_lit, i_n, iI_add, iI_sub, iI_mul, iI_neg, jI_add, jI_sub, jI_mul, jI_neg, sh_1, an_1, xo_1, di_p, dj_p, i_64A, i_64, j_32, lq_ge, lq_lt, lq_le, lq_gt, lq_eq, i_lt, i_le, i_eq, j_eq, iI_A, jI_J, iI_b, iI_v, jI_v, ↓reduceIte, ite_true, ite_false, Int.reduceEq, Int.reduceLT, Int.reduceLE, Int.reduceAdd, Int.reduceSub, Int.reduceMul, Int.reduceNeg, not_true_eq_false, not_false_eq_true, q8, q9]
          · have q10 : A M 260 s - 3 < f + 0 := by omega
            simp (config := { maxSteps := 1000000 }) (disch := (first | omega | decide | assumption)) only [ltm_s, ok_n, rd_i, rd_j, fd_i, fd_j, wr_i, wr_j, fw_i, fw_j, ci_s, cj_s, cv_s, dv_n, dw_n, rt_1, rt_b, rt_20, rt_21, okb_0, okb_1, okb_b, nar_0, nar_1, nar_b, i_0, i_1, j_0, j_1, i_lit, j_lit, i_n, iI_add, iI_sub, iI_mul, iI_neg, jI_add, jI_sub, jI_mul, jI_neg, sh_1, an_1, xo_1, di_p, dj_p, i_64A, i_64, j_32, lq_ge, lq_lt, lq_le, lq_gt, lq_eq, i_lt, i_le, i_eq, j_eq, iI_A, jI_J, iI_b, iI_v, jI_v, ↓reduceIte, ite_true, ite_false, Int.reduceEq, Int.reduceLT, Int.reduceLE, Int.reduceAdd, Int.reduceSub, Int.reduceMul, Int.reduceNeg, not_true_eq_false, not_false_eq_true, q8, q9, q10]
    · have S0 : Sj M M := Sj.ofI h1 h10 h2.1 h4.1
      have T0' : Sh2 M M s := ⟨b2, b4, b5⟩
      obtain ⟨r, M1, -, p1, -, -, c1, -⟩ := jns_l hF hg (s := s) (f := f) (n := n) (by omega) (by omega) (by omega) (by omega) (by omega) n.toNat 0 0 M M (by omega) (by omega) (by omega) S0 T0'
      have S1 : Sj M M1 := S0.ch2 c1 rfl
      have T1 : Sh2 M M1 s := by
        have e2 : ∀ z, A M1 260 z = A M 260 z := fun z => c1.a rfl
        have e3 : ∀ z, A M1 261 z = A M 261 z := fun z => c1.a rfl
        unfold Sh2
        simp only [e2, e3]
        exact T0'
      obtain ⟨r', M1', M2, p2, u2, S2, d1, d2, d3⟩ := jns_l hF hg (s := s) (f := f) (n := n) (by omega) (by omega) (by omega) (by omega) (by omega) n.toNat 0 0 M M1 (by omega) (by omega) (by omega) S1 T1
      rw [p1] at p2
      have e := Option.some.inj p2
      have ea := (Prod.mk.inj e).1
      have eb := (Prod.mk.inj e).2
      subst eb
      have S3 : Sj M2 M2 := S2.ch1 d2 rfl
      have hc : Ch [2, 3, 4, 14, 15, 220, 221, 222, 244, 245] [(1, 3), (1, 17), (219, 0), (219, 31)] M M2 := (c1.mono rfl).trans (d2.mono rfl)
      have g1 : Gj M M1 := by
        have e0 : nJ M1 = nJ M := c1.f (a := 219) (z := 0) rfl
        exact ⟨by omega, fun j _ _ => ⟨c1.a (a := 220) rfl, c1.a (a := 221) rfl⟩⟩
      refine ⟨r', M1, M2, goc _ _ ?_, gom _ _ _ (c1.a (a := 259) rfl) u2, S3.inv hI' (g1.trans d3) hc⟩
      rw [← ea]; exact p1
  · refine wrong (-13) ?_ ?_
    · refine s_RunSayer_junctions hF hg ?_
      refine ci_in (cs) ?_
      rw [if_pos (show iI 0 = 0 from rfl)]
      refine ci_in (ct) ?_
      rw [if_pos (show iI 0 = 0 from rfl)]
      refine ci_in (cn) ?_
      rw [if_pos (show iI 0 = 0 from rfl)]
      simp (config := { maxSteps := 1000000 }) (disch := (first | omega | decide | assumption)) only [ltm_s, ok_n, rd_i, rd_j, fd_i, fd_j, wr_i, wr_j, fw_i, fw_j, ci_s, cj_s, cv_s, dv_n, dw_n, rt_1, rt_b, rt_20, rt_21, okb_0, okb_1, okb_b, nar_0, nar_1, nar_b, i_0, i_1, j_0, j_1, i_lit, j_lit, i_n, iI_add, iI_sub, iI_mul, iI_neg, jI_add, jI_sub, jI_mul, jI_neg, sh_1, an_1, xo_1, di_p, dj_p, i_64A, i_64, j_32, lq_ge, lq_lt, lq_le, lq_gt, lq_eq, i_lt, i_le, i_eq, j_eq, iI_A, jI_J, iI_b, iI_v, jI_v, ↓reduceIte, ite_true, ite_false, Int.reduceEq, Int.reduceLT, Int.reduceLE, Int.reduceAdd, Int.reduceSub, Int.reduceMul, Int.reduceNeg, not_true_eq_false, not_false_eq_true, iI_n, rdn_i, rdn_j, wrn_i, wrn_j, b3, q4, q5]
    · refine s_Model_junctions hF hg ?_
      refine ci_in (ms M) ?_
      rw [if_neg (show ¬ iI 1 = 0 by decide)]
      refine ci_in (mt M) ?_
      rw [if_neg (show ¬ iI 1 = 0 by decide)]
      refine ci_in (mn M) ?_
      rw [if_neg (show ¬ iI 1 = 0 by decide)]
      simp (config := { maxSteps := 1000000 }) (disch := (first | omega | decide | assumption)) only [ltm_s, ok_n, rd_i, rd_j, fd_i, fd_j, wr_i, wr_j, fw_i, fw_j, ci_s, cj_s, cv_s, dv_n, dw_n, rt_1, rt_b, rt_20, rt_21, okb_0, okb_1, okb_b, nar_0, nar_1, nar_b, i_0, i_1, j_0, j_1, i_lit, j_lit, i_n, iI_add, iI_sub, iI_mul, iI_neg, jI_add, jI_sub, jI_mul, jI_neg, sh_1, an_1, xo_1, di_p, dj_p, i_64A, i_64, j_32, lq_ge, lq_lt, lq_le, lq_gt, lq_eq, i_lt, i_le, i_eq, j_eq, iI_A, jI_J, iI_b, iI_v, jI_v, ↓reduceIte, ite_true, ite_false, Int.reduceEq, Int.reduceLT, Int.reduceLE, Int.reduceAdd, Int.reduceSub, Int.reduceMul, Int.reduceNeg, not_true_eq_false, not_false_eq_true, q4, q5]
end Js
