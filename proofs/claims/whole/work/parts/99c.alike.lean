/-! PARTING, by both -/
section Pt_
variable {M0 M M' : am_M} {g : am_G} {F : am_FT}
theorem sc_ok (hg : GG g) {p : Int} (p0 : 0 ≤ p) (p3 : p < 4) : rok g (70 + 5 * p.toNat) := by
  have : p = 0 ∨ p = 1 ∨ p = 2 ∨ p = 3 := by omega
  rcases this with rfl | rfl | rfl | rfl
  · exact ⟨⟨hg.1 70 _ (by decide +kernel), hg.2.1 70 4 _ (by decide +kernel), hg.1 71 _ (by decide +kernel)⟩, by decide, rfl, rfl⟩
  · exact ⟨⟨hg.1 75 _ (by decide +kernel), hg.2.1 75 4 _ (by decide +kernel), hg.1 76 _ (by decide +kernel)⟩, by decide, rfl, rfl⟩
  · exact ⟨⟨hg.1 80 _ (by decide +kernel), hg.2.1 80 4 _ (by decide +kernel), hg.1 81 _ (by decide +kernel)⟩, by decide, rfl, rfl⟩
  · exact ⟨⟨hg.1 85 _ (by decide +kernel), hg.2.1 85 4 _ (by decide +kernel), hg.1 86 _ (by decide +kernel)⟩, by decide, rfl, rfl⟩
/-- what the class's route q says is what the model keeps for q -/
def Sy (N N2 : am_M) (q : Int) : Prop := (0 ≤ A N2 274 q ∧ A N2 274 q ≤ 80) ∧ A N (70 + 5 * q.toNat) 5 = A N2 274 q ∧ ∀ i : Int, 0 ≤ i → i < A N2 274 q → A N (70 + 5 * q.toNat + 1) i = A N2 275 (80 * q + i)
/-- two of them are alike -/
def Lk (N2 : am_M) (p q : Int) : Prop := A N2 274 p = A N2 274 q ∧ ∀ i : Int, 0 ≤ i → i < A N2 274 p → A N2 275 (80 * p + i) = A N2 275 (80 * q + i)
theorem c_isLike_l (hF : F = am_F T0 g) (hg : GG g) {N N2 : am_M} {p q : Int} (p0 : 0 ≤ p) (p3 : p < 4) (q0 : 0 ≤ q) (q3 : q < 4) (hp : Sy N N2 p) (hq : Sy N N2 q) (he : A N2 274 p = A N2 274 q) : ∀ n k : Nat, (k : Int) + n = A N2 274 p → F 68 15 [.ref (70 + 5 * p.toNat), .ref (70 + 5 * q.toNat), .int (iI k)] [] N = some (some (.int (iI (bI (∀ i : Int, (k : Int) ≤ i → i < A N2 274 p → A N2 275 (80 * p + i) = A N2 275 (80 * q + i))))), N) ∧ F 41 19 [.ref 219, .int (iI p), .int (iI q), .int (iI k)] [] N2 = some (some (.int (iI (bI (∀ i : Int, (k : Int) ≤ i → i < A N2 274 p → A N2 275 (80 * p + i) = A N2 275 (80 * q + i))))), N2) := by
  have l0 := hp.1
  intro n
  induction n with
  | zero =>
    intro k hk
    have u : A N2 274 p ≤ (k : Int) := by omega
    rw [bI_t (fun i i0 i1 => by omega)]
    refine ⟨?_, ?_⟩
    · refine s_Route_isLike_15 hF hg (sc_ok hg p0 p3).1 (sc_ok hg q0 q3).1 ?_
      simp (config := { maxSteps := 1000000 }) (disch := (first | omega | decide | assumption)) only [ltm_s, ok_n, rd_i, rd_j, fd_i, fd_j, wr_i, wr_j, fw_i, fw_j, ci_s, cj_s, cv_s, dv_n, dw_n, rt_1, rt_b, rt_20, rt_21, okb_0, okb_1, okb_b, nar_0, nar_1, nar_b, i_0, i_1, j_0, j_1, i_lit, j_lit, i_n, iI_add, iI_sub, iI_mul, iI_neg, jI_add, jI_sub, jI_mul, jI_neg, sh_1, an_1, xo_1, di_p, dj_p, i_64A, i_64, j_32, lq_ge, lq_lt, lq_le, lq_gt, lq_eq, i_lt, i_le, i_eq, j_eq, iI_A, jI_J, iI_b, iI_v, jI_v, ↓reduceIte, ite_true, ite_false, Int.reduceEq, Int.reduceLT, Int.reduceLE, Int.reduceAdd, Int.reduceSub, Int.reduceMul, Int.reduceNeg, not_true_eq_false, not_false_eq_true, hp.2.1, u]
    · refine s_Model_areAlike_19 hF hg ?_
      simp (config := { maxSteps := 1000000 }) (disch := (first | omega | decide | assumption)) only [ltm_s, ok_n, rd_i, rd_j, fd_i, fd_j, wr_i, wr_j, fw_i, fw_j, ci_s, cj_s, cv_s, dv_n, dw_n, rt_1, rt_b, rt_20, rt_21, okb_0, okb_1, okb_b, nar_0, nar_1, nar_b, i_0, i_1, j_0, j_1, i_lit, j_lit, i_n, iI_add, iI_sub, iI_mul, iI_neg, jI_add, jI_sub, jI_mul, jI_neg, sh_1, an_1, xo_1, di_p, dj_p, i_64A, i_64, j_32, lq_ge, lq_lt, lq_le, lq_gt, lq_eq, i_lt, i_le, i_eq, j_eq, iI_A, jI_J, iI_b, iI_v, jI_v, ↓reduceIte, ite_true, ite_false, Int.reduceEq, Int.reduceLT, Int.reduceLE, Int.reduceAdd, Int.reduceSub, Int.reduceMul, Int.reduceNeg, not_true_eq_false, not_false_eq_true, u]
  | succ n ih =>
    intro k hk
    have u : ¬ A N2 274 p ≤ (k : Int) := by omega
    have hs : (k : Int) + 1 = ((k + 1 : Nat) : Int) := by omega
    have hpk := hp.2.2 k (by omega) (by omega)
    have hqk := hq.2.2 k (by omega) (by omega)
    obtain ⟨i1, i2⟩ := ih (k + 1) (by omega)
    by_cases e : A N2 275 (80 * p + k) = A N2 275 (80 * q + k)
    · have iff : (∀ i : Int, (k : Int) ≤ i → i < A N2 274 p → A N2 275 (80 * p + i) = A N2 275 (80 * q + i)) ↔ (∀ i : Int, ((k + 1 : Nat) : Int) ≤ i → i < A N2 274 p → A N2 275 (80 * p + i) = A N2 275 (80 * q + i)) := ⟨fun h i i0 i1 => h i (by omega) i1, fun h i i0 i1 => by
        by_cases x : i = k
        · rw [x]; exact e
        · exact h i (by omega) i1⟩
      rw [bI_cg iff]
      refine ⟨?_, ?_⟩
      · refine s_Route_isLike_15 hF hg (sc_ok hg p0 p3).1 (sc_ok hg q0 q3).1 ?_
        simp (config := { maxSteps := 1000000 }) (disch := (first | omega | decide | assumption)) only [ltm_s, ok_n, rd_i, rd_j, fd_i, fd_j, wr_i, wr_j, fw_i, fw_j, ci_s, cj_s, cv_s, dv_n, dw_n, rt_1, rt_b, rt_20, rt_21, okb_0, okb_1, okb_b, nar_0, nar_1, nar_b, i_0, i_1, j_0, j_1, i_lit, j_lit, i_n, iI_add, iI_sub, iI_mul, iI_neg, jI_add, jI_sub, jI_mul, jI_neg, sh_1, an_1, xo_1, di_p, dj_p, i_64A, i_64, j_32, lq_ge, lq_lt, lq_le, lq_gt, lq_eq, i_lt, i_le, i_eq, j_eq, iI_A, jI_J, iI_b, iI_v, jI_v, ↓reduceIte, ite_true, ite_false, Int.reduceEq, Int.reduceLT, Int.reduceLE, Int.reduceAdd, Int.reduceSub, Int.reduceMul, Int.reduceNeg, not_true_eq_false, not_false_eq_true, hp.2.1, u, hpk, hqk, eq_true e, hs, i1]
      · refine s_Model_areAlike_19 hF hg ?_
        simp (config := { maxSteps := 1000000 }) (disch := (first | omega | decide | assumption)) only [ltm_s, ok_n, rd_i, rd_j, fd_i, fd_j, wr_i, wr_j, fw_i, fw_j, ci_s, cj_s, cv_s, dv_n, dw_n, rt_1, rt_b, rt_20, rt_21, okb_0, okb_1, okb_b, nar_0, nar_1, nar_b, i_0, i_1, j_0, j_1, i_lit, j_lit, i_n, iI_add, iI_sub, iI_mul, iI_neg, jI_add, jI_sub, jI_mul, jI_neg, sh_1, an_1, xo_1, di_p, dj_p, i_64A, i_64, j_32, lq_ge, lq_lt, lq_le, lq_gt, lq_eq, i_lt, i_le, i_eq, j_eq, iI_A, jI_J, iI_b, iI_v, jI_v, ↓reduceIte, ite_true, ite_false, Int.reduceEq, Int.reduceLT, Int.reduceLE, Int.reduceAdd, Int.reduceSub, Int.reduceMul, Int.reduceNeg, not_true_eq_false, not_false_eq_true, u, eq_true e, hs, i2]
    · rw [bI_f (fun h => e (h k (by omega) (by omega)))]
      refine ⟨?_, ?_⟩
      · refine s_Route_isLike_15 hF hg (sc_ok hg p0 p3).1 (sc_ok hg q0 q3).1 ?_
        simp (config := { maxSteps := 1000000 }) (disch := (first | omega | decide | assumption)) only [ltm_s, ok_n, rd_i, rd_j, fd_i, fd_j, wr_i, wr_j, fw_i, fw_j, ci_s, cj_s, cv_s, dv_n, dw_n, rt_1, rt_b, rt_20, rt_21, okb_0, okb_1, okb_b, nar_0, nar_1, nar_b, i_0, i_1, j_0, j_1, i_lit, j_lit, i_n, iI_add, iI_sub, iI_mul, iI_neg, jI_add, jI_sub, jI_mul, jI_neg, sh_1, an_1, xo_1, di_p, dj_p, i_64A, i_64, j_32, lq_ge, lq_lt, lq_le, lq_gt, lq_eq, i_lt, i_le, i_eq, j_eq, iI_A, jI_J, iI_b, iI_v, jI_v, ↓reduceIte, ite_true, ite_false, Int.reduceEq, Int.reduceLT, Int.reduceLE, Int.reduceAdd, Int.reduceSub, Int.reduceMul, Int.reduceNeg, not_true_eq_false, not_false_eq_true, hp.2.1, u, hpk, hqk, e]
      · refine s_Model_areAlike_19 hF hg ?_
        simp (config := { maxSteps := 1000000 }) (disch := (first | omega | decide | assumption)) only [ltm_s, ok_n, rd_i, rd_j, fd_i, fd_j, wr_i, wr_j, fw_i, fw_j, ci_s, cj_s, cv_s, dv_n, dw_n, rt_1, rt_b, rt_20, rt_21, okb_0, okb_1, okb_b, nar_0, nar_1, nar_b, i_0, i_1, j_0, j_1, i_lit, j_lit, i_n, iI_add, iI_sub, iI_mul, iI_neg, jI_add, jI_sub, jI_mul, jI_neg, sh_1, an_1, xo_1, di_p, dj_p, i_64A, i_64, j_32, lq_ge, lq_lt, lq_le, lq_gt, lq_eq, i_lt, i_le, i_eq, j_eq, iI_A, jI_J, iI_b, iI_v, jI_v, ↓reduceIte, ite_true, ite_false, Int.reduceEq, Int.reduceLT, Int.reduceLE, Int.reduceAdd, Int.reduceSub, Int.reduceMul, Int.reduceNeg, not_true_eq_false, not_false_eq_true, u, e]
theorem c_isLike (hF : F = am_F T0 g) (hg : GG g) {N N2 : am_M} {p q : Int} (p0 : 0 ≤ p) (p3 : p < 4) (q0 : 0 ≤ q) (q3 : q < 4) (hp : Sy N N2 p) (hq : Sy N N2 q) : F 68 0 [.ref (70 + 5 * p.toNat), .ref (70 + 5 * q.toNat)] [] N = some (some (.int (iI (bI (Lk N2 p q)))), N) ∧ F 41 0 [.ref 219, .int (iI p), .int (iI q)] [] N2 = some (some (.int (iI (bI (Lk N2 p q)))), N2) := by
  have l0 := hp.1
  by_cases he : A N2 274 p = A N2 274 q
  · obtain ⟨i1, i2⟩ := c_isLike_l hF hg p0 p3 q0 q3 hp hq he (A N2 274 p).toNat 0 (by omega)
    have iff : Lk N2 p q ↔ (∀ i : Int, ((0 : Nat) : Int) ≤ i → i < A N2 274 p → A N2 275 (80 * p + i) = A N2 275 (80 * q + i)) := ⟨fun h i i0 i1 => h.2 i (by omega) i1, fun h => ⟨he, fun i i0 i1 => h i (by omega) i1⟩⟩
    rw [bI_cg iff]
    refine ⟨?_, ?_⟩
    · refine s_Route_isLike hF hg (sc_ok hg p0 p3).1 (sc_ok hg q0 q3).1 ?_
      simp (config := { maxSteps := 1000000 }) (disch := (first | omega | decide | assumption)) only [ltm_s, ok_n, rd_i, rd_j, fd_i, fd_j, wr_i, wr_j, fw_i, fw_j, ci_s, cj_s, cv_s, dv_n, dw_n, rt_1, rt_b, rt_20, rt_21, okb_0, okb_1, okb_b, nar_0, nar_1, nar_b, i_0, i_1, j_0, j_1, i_lit, j_lit, i_n, iI_add, iI_sub, iI_mul, iI_neg, jI_add, jI_sub, jI_mul, jI_neg, sh_1, an_1, xo_1, di_p, dj_p, i_64A, i_64, j_32, lq_ge, lq_lt, lq_le, lq_gt, lq_eq, i_lt, i_le, i_eq, j_eq, iI_A, jI_J, iI_b, iI_v, jI_v, ↓reduceIte, ite_true, ite_false, Int.reduceEq, Int.reduceLT, Int.reduceLE, Int.reduceAdd, Int.reduceSub, Int.reduceMul, Int.reduceNeg, not_true_eq_false, not_false_eq_true, hp.2.1, hq.2.1, eq_true he]
      exact i1
    · refine s_Model_areAlike hF hg ?_
      simp (config := { maxSteps := 1000000 }) (disch := (first | omega | decide | assumption)) only [ltm_s, ok_n, rd_i, rd_j, fd_i, fd_j, wr_i, wr_j, fw_i, fw_j, ci_s, cj_s, cv_s, dv_n, dw_n, rt_1, rt_b, rt_20, rt_21, okb_0, okb_1, okb_b, nar_0, nar_1, nar_b, i_0, i_1, j_0, j_1, i_lit, j_lit, i_n, iI_add, iI_sub, iI_mul, iI_neg, jI_add, jI_sub, jI_mul, jI_neg, sh_1, an_1, xo_1, di_p, dj_p, i_64A, i_64, j_32, lq_ge, lq_lt, lq_le, lq_gt, lq_eq, i_lt, i_le, i_eq, j_eq, iI_A, jI_J, iI_b, iI_v, jI_v, ↓reduceIte, ite_true, ite_false, Int.reduceEq, Int.reduceLT, Int.reduceLE, Int.reduceAdd, Int.reduceSub, Int.reduceMul, Int.reduceNeg, not_true_eq_false, not_false_eq_true, eq_true he]
      exact i2
  · rw [bI_f (fun h => he h.1)]
    refine ⟨?_, ?_⟩
    · refine s_Route_isLike hF hg (sc_ok hg p0 p3).1 (sc_ok hg q0 q3).1 ?_
      simp (config := { maxSteps := 1000000 }) (disch := (first | omega | decide | assumption)) only [ltm_s, ok_n, rd_i, rd_j, fd_i, fd_j, wr_i, wr_j, fw_i, fw_j, ci_s, cj_s, cv_s, dv_n, dw_n, rt_1, rt_b, rt_20, rt_21, okb_0, okb_1, okb_b, nar_0, nar_1, nar_b, i_0, i_1, j_0, j_1, i_lit, j_lit, i_n, iI_add, iI_sub, iI_mul, iI_neg, jI_add, jI_sub, jI_mul, jI_neg, sh_1, an_1, xo_1, di_p, dj_p, i_64A, i_64, j_32, lq_ge, lq_lt, lq_le, lq_gt, lq_eq, i_lt, i_le, i_eq, j_eq, iI_A, jI_J, iI_b, iI_v, jI_v, ↓reduceIte, ite_true, ite_false, Int.reduceEq, Int.reduceLT, Int.reduceLE, Int.reduceAdd, Int.reduceSub, Int.reduceMul, Int.reduceNeg, not_true_eq_false, not_false_eq_true, hp.2.1, hq.2.1, he]
    · refine s_Model_areAlike hF hg ?_
      simp (config := { maxSteps := 1000000 }) (disch := (first | omega | decide | assumption)) only [ltm_s, ok_n, rd_i, rd_j, fd_i, fd_j, wr_i, wr_j, fw_i, fw_j, ci_s, cj_s, cv_s, dv_n, dw_n, rt_1, rt_b, rt_20, rt_21, okb_0, okb_1, okb_b, nar_0, nar_1, nar_b, i_0, i_1, j_0, j_1, i_lit, j_lit, i_n, iI_add, iI_sub, iI_mul, iI_neg, jI_add, jI_sub, jI_mul, jI_neg, sh_1, an_1, xo_1, di_p, dj_p, i_64A, i_64, j_32, lq_ge, lq_lt, lq_le, lq_gt, lq_eq, i_lt, i_le, i_eq, j_eq, iI_A, jI_J, iI_b, iI_v, jI_v, ↓reduceIte, ite_true, ite_false, Int.reduceEq, Int.reduceLT, Int.reduceLE, Int.reduceAdd, Int.reduceSub, Int.reduceMul, Int.reduceNeg, not_true_eq_false, not_false_eq_true, he]
theorem c_isLike_r (hF : F = am_F T0 g) (hg : GG g) {N N2 : am_M} {p : Int} (p0 : 0 ≤ p) (p3 : p < 4) (hp : Sy N N2 p) : F 41 0 [.ref 219, .int (iI p), .int (iI p)] [] N2 = some (some (.int (iI 1)), N2) := by
  have h := (c_isLike hF hg p0 p3 p0 p3 hp hp).2
  rw [bI_t (show Lk N2 p p from ⟨rfl, fun _ _ _ => rfl⟩)] at h
  exact h
/-- counting who is alike -/
theorem al_l (hF : F = am_F T0 g) (hg : GG g) {N N2 : am_M} {s a b hour most p : Int} (p0 : 0 ≤ p) (p3 : p < 4) (hp1 : bt s p = 1) (hm : 0 ≤ most ∧ most ≤ 4) (hS : ∀ q : Int, 0 ≤ q → q ≤ p → bt s q = 1 → Sy N N2 q) : ∀ (n k : Nat) (acc : Int), (k : Int) + n = p → 0 ≤ acc → acc ≤ (k : Int) → ∃ x : Int, (1 ≤ x ∧ x ≤ 4) ∧ (∀ R, F 255 6 [.ref 0, .int (iI s), .int (iI a), .int (iI b), .int (iI (if most < x then x else most)), .int (iI (p + 1))] [] N = some R → F 255 49 [.ref 0, .int (iI s), .int (iI a), .int (iI b), .int (iI most), .int (iI p), .int (iI (acc + 1)), .int (iI k)] [] N = some R) ∧ ∀ R, F 267 6 [.ref 219, .int (iI s), .int (iI a), .int (iI b), .int (iI hour), .int (iI (if most < x then x else most)), .int (iI (p + 1))] [] N2 = some R → F 267 94 [.ref 219, .int (iI s), .int (iI a), .int (iI b), .int (iI hour), .int (iI most), .int (iI p), .int (iI acc), .int (iI k)] [] N2 = some R := by
  intro n
  induction n with
  | zero =>
    intro k acc hk a0 a1
    have ek : (k : Int) = p := by omega
    rw [ek]
    have u : p ≤ p := Int.le_refl _
    have u2 : ¬ p < p := by omega
    have u3 : p < p + 1 := by omega
    refine ⟨acc + 1, by omega, fun R hR => ?_, fun R hR => ?_⟩
    · have hx := c_maxI hF hg (M := N) (v := most) (w := acc + 1) (by omega) (by omega) (by omega) (by omega)
      refine s_RunSayer_mostAlike_49 hF hg ?_
      rw [if_pos (show iI p ≤ iI p by rw [i_le]; omega)]
      refine ci_in hx ?_
      rw [show (1 : Int32) = iI 1 from rfl, iI_add]
      exact hR
    · have hr := c_isLike_r hF hg p0 p3 (hS p p0 u hp1)
      refine s_Model_mostAlike_94 hF hg ?_
      simp (config := { maxSteps := 1000000 }) (disch := (first | omega | decide | assumption)) only [ltm_s, ok_n, rd_i, rd_j, fd_i, fd_j, wr_i, wr_j, fw_i, fw_j, ci_s, cj_s, cv_s, dv_n, dw_n, rt_1, rt_b, rt_20, rt_21, okb_0, okb_1, okb_b, nar_0, nar_1, nar_b, i_0, i_1, j_0, j_1, i_lit, j_lit, i_n, iI_add, iI_sub, iI_mul, iI_neg, jI_add, jI_sub, jI_mul, jI_neg, sh_1, an_1, xo_1, di_p, dj_p, i_64A, i_64, j_32, lq_ge, lq_lt, lq_le, lq_gt, lq_eq, i_lt, i_le, i_eq, j_eq, iI_A, jI_J, iI_b, iI_v, jI_v, ↓reduceIte, ite_true, ite_false, Int.reduceEq, Int.reduceLT, Int.reduceLE, Int.reduceAdd, Int.reduceSub, Int.reduceMul, Int.reduceNeg, not_true_eq_false, not_false_eq_true, u2, bt_i, hp1, hr]
      refine s_Model_mostAlike_94 hF hg ?_
      by_cases q : acc + 1 ≤ most
      · rw [if_neg (show ¬ most < acc + 1 by omega)] at hR
        simp (config := { maxSteps := 1000000 }) (disch := (first | omega | decide | assumption)) only [ltm_s, ok_n, rd_i, rd_j, fd_i, fd_j, wr_i, wr_j, fw_i, fw_j, ci_s, cj_s, cv_s, dv_n, dw_n, rt_1, rt_b, rt_20, rt_21, okb_0, okb_1, okb_b, nar_0, nar_1, nar_b, i_0, i_1, j_0, j_1, i_lit, j_lit, i_n, iI_add, iI_sub, iI_mul, iI_neg, jI_add, jI_sub, jI_mul, jI_neg, sh_1, an_1, xo_1, di_p, dj_p, i_64A, i_64, j_32, lq_ge, lq_lt, lq_le, lq_gt, lq_eq, i_lt, i_le, i_eq, j_eq, iI_A, jI_J, iI_b, iI_v, jI_v, ↓reduceIte, ite_true, ite_false, Int.reduceEq, Int.reduceLT, Int.reduceLE, Int.reduceAdd, Int.reduceSub, Int.reduceMul, Int.reduceNeg, not_true_eq_false, not_false_eq_true, u3, q]
        exact hR
      · rw [if_pos (show most < acc + 1 by omega)] at hR
        simp (config := { maxSteps := 1000000 }) (disch := (first | omega | decide | assumption)) only [ltm_s, ok_n, rd_i, rd_j, fd_i, fd_j, wr_i, wr_j, fw_i, fw_j, ci_s, cj_s, cv_s, dv_n, dw_n, rt_1, rt_b, rt_20, rt_21, okb_0, okb_1, okb_b, nar_0, nar_1, nar_b, i_0, i_1, j_0, j_1, i_lit, j_lit, i_n, iI_add, iI_sub, iI_mul, iI_neg, jI_add, jI_sub, jI_mul, jI_neg, sh_1, an_1, xo_1, di_p, dj_p, i_64A, i_64, j_32, lq_ge, lq_lt, lq_le, lq_gt, lq_eq, i_lt, i_le, i_eq, j_eq, iI_A, jI_J, iI_b, iI_v, jI_v, ↓reduceIte, ite_true, ite_false, Int.reduceEq, Int.reduceLT, Int.reduceLE, Int.reduceAdd, Int.reduceSub, Int.reduceMul, Int.reduceNeg, not_true_eq_false, not_false_eq_true, u3, q]
        exact hR
  | succ n ih =>
    intro k acc hk a0 a1
    have u : ¬ p ≤ (k : Int) := by omega
    have u2 : ¬ p < (k : Int) := by omega
    have hs : (k : Int) + 1 = ((k + 1 : Nat) : Int) := by omega
    have hk4 : (k : Int) < 4 := by omega
    rcases bt_01 (x := s) (i := (k : Int)) with hb | hb
    · obtain ⟨x, x1, x2, x3⟩ := ih (k + 1) acc (by omega) a0 (by omega)
      refine ⟨x, x1, fun R hR => ?_, fun R hR => ?_⟩
      · refine s_RunSayer_mostAlike_49 hF hg ?_
        simp (config := { maxSteps := 1000000 }) (disch := (first | omega | decide | assumption)) only [ltm_s, ok_n, rd_i, rd_j, fd_i, fd_j, wr_i, wr_j, fw_i, fw_j, ci_s, cj_s, cv_s, dv_n, dw_n, rt_1, rt_b, rt_20, rt_21, okb_0, okb_1, okb_b, nar_0, nar_1, nar_b, i_0, i_1, j_0, j_1, i_lit, j_lit, i_n, iI_add, iI_sub, iI_mul, iI_neg, jI_add, jI_sub, jI_mul, jI_neg, sh_1, an_1, xo_1, di_p, dj_p, i_64A, i_64, j_32, lq_ge, lq_lt, lq_le, lq_gt, lq_eq, i_lt, i_le, i_eq, j_eq, iI_A, jI_J, iI_b, iI_v, jI_v, ↓reduceIte, ite_true, ite_false, Int.reduceEq, Int.reduceLT, Int.reduceLE, Int.reduceAdd, Int.reduceSub, Int.reduceMul, Int.reduceNeg, not_true_eq_false, not_false_eq_true, u, bt_i, hb, hs]
        exact x2 R hR
      · refine s_Model_mostAlike_94 hF hg ?_
        simp (config := { maxSteps := 1000000 }) (disch := (first | omega | decide | assumption)) only [ltm_s, ok_n, rd_i, rd_j, fd_i, fd_j, wr_i, wr_j, fw_i, fw_j, ci_s, cj_s, cv_s, dv_n, dw_n, rt_1, rt_b, rt_20, rt_21, okb_0, okb_1, okb_b, nar_0, nar_1, nar_b, i_0, i_1, j_0, j_1, i_lit, j_lit, i_n, iI_add, iI_sub, iI_mul, iI_neg, jI_add, jI_sub, jI_mul, jI_neg, sh_1, an_1, xo_1, di_p, dj_p, i_64A, i_64, j_32, lq_ge, lq_lt, lq_le, lq_gt, lq_eq, i_lt, i_le, i_eq, j_eq, iI_A, jI_J, iI_b, iI_v, jI_v, ↓reduceIte, ite_true, ite_false, Int.reduceEq, Int.reduceLT, Int.reduceLE, Int.reduceAdd, Int.reduceSub, Int.reduceMul, Int.reduceNeg, not_true_eq_false, not_false_eq_true, u2, bt_i, hb, hs, Int.add_zero]
        exact x3 R hR
    · obtain ⟨l1, l2⟩ := c_isLike hF hg p0 p3 (q := k) (by omega) hk4 (hS p p0 (Int.le_refl _) hp1) (hS k (by omega) (by omega) hb)
      by_cases lk : Lk N2 p k
      · rw [bI_t lk] at l1 l2
        obtain ⟨x, x1, x2, x3⟩ := ih (k + 1) (acc + 1) (by omega) (by omega) (by omega)
        refine ⟨x, x1, fun R hR => ?_, fun R hR => ?_⟩
        · refine s_RunSayer_mostAlike_49 hF hg ?_
          simp (config := { maxSteps := 1000000 }) (disch := (first | omega | decide | assumption)) only [ltm_s, ok_n, rd_i, rd_j, fd_i, fd_j, wr_i, wr_j, fw_i, fw_j, ci_s, cj_s, cv_s, dv_n, dw_n, rt_1, rt_b, rt_20, rt_21, okb_0, okb_1, okb_b, nar_0, nar_1, nar_b, i_0, i_1, j_0, j_1, i_lit, j_lit, i_n, iI_add, iI_sub, iI_mul, iI_neg, jI_add, jI_sub, jI_mul, jI_neg, sh_1, an_1, xo_1, di_p, dj_p, i_64A, i_64, j_32, lq_ge, lq_lt, lq_le, lq_gt, lq_eq, i_lt, i_le, i_eq, j_eq, iI_A, jI_J, iI_b, iI_v, jI_v, ↓reduceIte, ite_true, ite_false, Int.reduceEq, Int.reduceLT, Int.reduceLE, Int.reduceAdd, Int.reduceSub, Int.reduceMul, Int.reduceNeg, not_true_eq_false, not_false_eq_true, iI_n, rdn_i, rdn_j, wrn_i, wrn_j, u, bt_i, hb, l1, hs]
          exact x2 R hR
        · refine s_Model_mostAlike_94 hF hg ?_
          simp (config := { maxSteps := 1000000 }) (disch := (first | omega | decide | assumption)) only [ltm_s, ok_n, rd_i, rd_j, fd_i, fd_j, wr_i, wr_j, fw_i, fw_j, ci_s, cj_s, cv_s, dv_n, dw_n, rt_1, rt_b, rt_20, rt_21, okb_0, okb_1, okb_b, nar_0, nar_1, nar_b, i_0, i_1, j_0, j_1, i_lit, j_lit, i_n, iI_add, iI_sub, iI_mul, iI_neg, jI_add, jI_sub, jI_mul, jI_neg, sh_1, an_1, xo_1, di_p, dj_p, i_64A, i_64, j_32, lq_ge, lq_lt, lq_le, lq_gt, lq_eq, i_lt, i_le, i_eq, j_eq, iI_A, jI_J, iI_b, iI_v, jI_v, ↓reduceIte, ite_true, ite_false, Int.reduceEq, Int.reduceLT, Int.reduceLE, Int.reduceAdd, Int.reduceSub, Int.reduceMul, Int.reduceNeg, not_true_eq_false, not_false_eq_true, u2, bt_i, hb, l2, hs]
          exact x3 R hR
      · rw [bI_f lk] at l1 l2
        obtain ⟨x, x1, x2, x3⟩ := ih (k + 1) acc (by omega) a0 (by omega)
        refine ⟨x, x1, fun R hR => ?_, fun R hR => ?_⟩
        · refine s_RunSayer_mostAlike_49 hF hg ?_
          simp (config := { maxSteps := 1000000 }) (disch := (first | omega | decide | assumption)) only [ltm_s, ok_n, rd_i, rd_j, fd_i, fd_j, wr_i, wr_j, fw_i, fw_j, ci_s, cj_s, cv_s, dv_n, dw_n, rt_1, rt_b, rt_20, rt_21, okb_0, okb_1, okb_b, nar_0, nar_1, nar_b, i_0, i_1, j_0, j_1, i_lit, j_lit, i_n, iI_add, iI_sub, iI_mul, iI_neg, jI_add, jI_sub, jI_mul, jI_neg, sh_1, an_1, xo_1, di_p, dj_p, i_64A, i_64, j_32, lq_ge, lq_lt, lq_le, lq_gt, lq_eq, i_lt, i_le, i_eq, j_eq, iI_A, jI_J, iI_b, iI_v, jI_v, ↓reduceIte, ite_true, ite_false, Int.reduceEq, Int.reduceLT, Int.reduceLE, Int.reduceAdd, Int.reduceSub, Int.reduceMul, Int.reduceNeg, not_true_eq_false, not_false_eq_true, iI_n, rdn_i, rdn_j, wrn_i, wrn_j, u, bt_i, hb, l1, hs]
          exact x2 R hR
        · refine s_Model_mostAlike_94 hF hg ?_
          simp (config := { maxSteps := 1000000 }) (disch := (first | omega | decide | assumption)) only [ltm_s, ok_n, rd_i, rd_j, fd_i, fd_j, wr_i, wr_j, fw_i, fw_j, ci_s, cj_s, cv_s, dv_n, dw_n, rt_1, rt_b, rt_20, rt_21, okb_0, okb_1, okb_b, nar_0, nar_1, nar_b, i_0, i_1, j_0, j_1, i_lit, j_lit, i_n, iI_add, iI_sub, iI_mul, iI_neg, jI_add, jI_sub, jI_mul, jI_neg, sh_1, an_1, xo_1, di_p, dj_p, i_64A, i_64, j_32, lq_ge, lq_lt, lq_le, lq_gt, lq_eq, i_lt, i_le, i_eq, j_eq, iI_A, jI_J, iI_b, iI_v, jI_v, ↓reduceIte, ite_true, ite_false, Int.reduceEq, Int.reduceLT, Int.reduceLE, Int.reduceAdd, Int.reduceSub, Int.reduceMul, Int.reduceNeg, not_true_eq_false, not_false_eq_true, u2, bt_i, hb, l2, hs, Int.add_zero]
          exact x3 R hR
end Pt_
