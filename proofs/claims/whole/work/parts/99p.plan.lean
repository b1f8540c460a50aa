/-! PLAN: what is laid back, and the runs of a set -/
section Pl
variable {M0 M N M' : am_M} {g : am_G} {F : am_FT}
theorem m_keep_l (hF : F = am_F T0 g) (hg : GG g) {p : Int} (p0 : 0 ≤ p) (p3 : p < 4) : ∀ (n k : Nat) (N : am_M), k + n = 6400 → Ch [269, 270] [] M N → (∀ t : Int, 0 ≤ t → t < (k : Int) → A N 269 t = A M 251 (6400 * p + t) ∧ A N 270 t = A M 252 (6400 * p + t)) → ∃ M' : am_M, F 59 2 [.ref 219, .int (iI p), .int (iI 1), .int (iI k)] [] N = some (none, M') ∧ Ch [269, 270] [] M M' ∧ ∀ t : Int, 0 ≤ t → t < 6400 → A M' 269 t = A M 251 (6400 * p + t) ∧ A M' 270 t = A M 252 (6400 * p + t) := by
  intro n
  induction n with
  | zero =>
    intro k N hk c h
    have q : 6400 ≤ (k : Int) := by omega
    refine ⟨N, ?_, c, fun t t0 t1 => h t t0 (by omega)⟩
    refine s_Model_laysBack_2 hF hg ?_
    simp (config := { maxSteps := 1000000 }) (disch := (first | omega | decide | assumption)) only [ltm_s, ok_n, rd_i, rd_j, fd_i, fd_j, wr_i, wr_j, fw_i, fw_j, ci_s, cj_s, cv_s, dv_n, dw_n, rt_1, rt_b, rt_20, rt_21, okb_0, okb_1, okb_b, nar_0, nar_1, nar_b, i_0, i_1, j_0, j_1, i_lit, j_lit, i_n, iI_add, iI_sub, iI_mul, iI_neg, jI_add, jI_sub, jI_mul, jI_neg, sh_1, an_1, xo_1, di_p, dj_p, i_64A, i_64, j_32, lq_ge, lq_lt, lq_le, lq_gt, lq_eq, i_lt, i_le, i_eq, j_eq, iI_A, jI_J, iI_b, iI_v, jI_v, ↓reduceIte, ite_true, ite_false, Int.reduceEq, Int.reduceLT, Int.reduceLE, Int.reduceAdd, Int.reduceSub, Int.reduceMul, Int.reduceNeg, not_true_eq_false, not_false_eq_true, q]
  | succ n ih =>
    intro k N hk c h
    have q : ¬ 6400 ≤ (k : Int) := by omega
    have hs : (k : Int) + 1 = ((k + 1 : Nat) : Int) := by omega
    obtain ⟨N2, e2⟩ : ∃ y : am_M, y = W_ (W_ N 269 k (A N 251 (6400 * p + k))) 270 k (A N 252 (6400 * p + k)) := ⟨_, rfl⟩
    have c2 : Ch [269, 270] [] M N2 := by rw [e2]; exact (c.wm (Or.inl (by decide))).wm (Or.inl (by decide))
    obtain ⟨M', p1, p2, p3'⟩ := ih (k + 1) N2 (by omega) c2 (fun t t0 t1 => by
      by_cases e : t = k
      · rw [e, e2, A_Wn (by decide), A_WA, A_WA, c.a (a := 251) rfl, c.a (a := 252) rfl]
        exact ⟨rfl, rfl⟩
      · rw [e2, A_Wn (by decide), A_Wo (by omega) t0 e, A_Wo (by omega) t0 e, A_Wn (by decide)]
        exact h t t0 (by omega))
    refine ⟨M', ?_, p2, p3'⟩
    refine s_Model_laysBack_2 hF hg ?_
    have e252 : A (W_ N 269 k (A N 251 (6400 * p + k))) 252 (6400 * p + k) = A N 252 (6400 * p + k) := by rw [A_Wn (by decide)]
    simp (config := { maxSteps := 1000000 }) (disch := (first | omega | decide | assumption)) only [ltm_s, ok_n, rd_i, rd_j, fd_i, fd_j, wr_i, wr_j, fw_i, fw_j, ci_s, cj_s, cv_s, dv_n, dw_n, rt_1, rt_b, rt_20, rt_21, okb_0, okb_1, okb_b, nar_0, nar_1, nar_b, i_0, i_1, j_0, j_1, i_lit, j_lit, i_n, iI_add, iI_sub, iI_mul, iI_neg, jI_add, jI_sub, jI_mul, jI_neg, sh_1, an_1, xo_1, di_p, dj_p, i_64A, i_64, j_32, lq_ge, lq_lt, lq_le, lq_gt, lq_eq, i_lt, i_le, i_eq, j_eq, iI_A, jI_J, iI_b, iI_v, jI_v, ↓reduceIte, ite_true, ite_false, Int.reduceEq, Int.reduceLT, Int.reduceLE, Int.reduceAdd, Int.reduceSub, Int.reduceMul, Int.reduceNeg, not_true_eq_false, not_false_eq_true, q, e252, e2.symm, hs, p1]
theorem m_keep (hF : F = am_F T0 g) (hg : GG g) {p : Int} (p0 : 0 ≤ p) (p3 : p < 4) : ∃ M' : am_M, F 59 0 [.ref 219, .int (iI p), .int (iI 1)] [] M = some (none, M') ∧ Ch [269, 270] [] M M' ∧ ∀ t : Int, 0 ≤ t → t < 6400 → A M' 269 t = A M 251 (6400 * p + t) ∧ A M' 270 t = A M 252 (6400 * p + t) := by
  obtain ⟨M', p1, p2, p3'⟩ := m_keep_l hF hg p0 p3 6400 0 M (by omega) Ch.refl (fun t t0 t1 => by omega)
  refine ⟨M', ?_, p2, p3'⟩
  refine s_Model_laysBack hF hg ?_
  exact p1
theorem m_lay_l (hF : F = am_F T0 g) (hg : GG g) {p : Int} (p0 : 0 ≤ p) (p3 : p < 4) : ∀ (n k : Nat) (N : am_M), k + n = 6400 → Ch [251, 252] [] M N → (∀ t : Int, 0 ≤ t → t < (k : Int) → A N 251 (6400 * p + t) = A M 269 t ∧ A N 252 (6400 * p + t) = A M 270 t) → (∀ z : Int, 0 ≤ z → z < 6400 * p ∨ 6400 * p + 6400 ≤ z → A N 251 z = A M 251 z ∧ A N 252 z = A M 252 z) → ∃ M' : am_M, F 59 2 [.ref 219, .int (iI p), .int (iI 0), .int (iI k)] [] N = some (none, M') ∧ Ch [251, 252] [] M M' ∧ (∀ t : Int, 0 ≤ t → t < 6400 → A M' 251 (6400 * p + t) = A M 269 t ∧ A M' 252 (6400 * p + t) = A M 270 t) ∧ ∀ z : Int, 0 ≤ z → z < 6400 * p ∨ 6400 * p + 6400 ≤ z → A M' 251 z = A M 251 z ∧ A M' 252 z = A M 252 z := by
  intro n
  induction n with
  | zero =>
    intro k N hk c h ho
    have q : 6400 ≤ (k : Int) := by omega
    refine ⟨N, ?_, c, fun t t0 t1 => h t t0 (by omega), ho⟩
    refine s_Model_laysBack_2 hF hg ?_
    simp (config := { maxSteps := 1000000 }) (disch := (first | omega | decide | assumption)) only [ltm_s, ok_n, rd_i, rd_j, fd_i, fd_j, wr_i, wr_j, fw_i, fw_j, ci_s, cj_s, cv_s, dv_n, dw_n, rt_1, rt_b, rt_20, rt_21, okb_0, okb_1, okb_b, nar_0, nar_1, nar_b, i_0, i_1, j_0, j_1, i_lit, j_lit, i_n, iI_add, iI_sub, iI_mul, iI_neg, jI_add, jI_sub, jI_mul, jI_neg, sh_1, an_1, xo_1, di_p, dj_p, i_64A, i_64, j_32, lq_ge, lq_lt, lq_le, lq_gt, lq_eq, i_lt, i_le, i_eq, j_eq, iI_A, jI_J, iI_b, iI_v, jI_v, ↓reduceIte, ite_true, ite_false, Int.reduceEq, Int.reduceLT, Int.reduceLE, Int.reduceAdd, Int.reduceSub, Int.reduceMul, Int.reduceNeg, not_true_eq_false, not_false_eq_true, q]
  | succ n ih =>
    intro k N hk c h ho
    have q : ¬ 6400 ≤ (k : Int) := by omega
    have hs : (k : Int) + 1 = ((k + 1 : Nat) : Int) := by omega
    obtain ⟨N2, e2⟩ : ∃ y : am_M, y = W_ (W_ N 251 (6400 * p + k) (A N 269 k)) 252 (6400 * p + k) (A N 270 k) := ⟨_, rfl⟩
    have c2 : Ch [251, 252] [] M N2 := by rw [e2]; exact (c.wm (Or.inl (by decide))).wm (Or.inl (by decide))
    obtain ⟨M', p1, p2, p3'⟩ := ih (k + 1) N2 (by omega) c2 (fun t t0 t1 => by
      by_cases e : t = k
      · rw [e, e2, A_Wn (by decide), A_WA, A_WA, c.a (a := 269) rfl, c.a (a := 270) rfl]
        exact ⟨rfl, rfl⟩
      · rw [e2, A_Wn (by decide), A_Wo (by omega) (by omega) (by omega), A_Wo (by omega) (by omega) (by omega), A_Wn (by decide)]
        exact h t t0 (by omega)) (fun z z0 z1 => by
      rw [e2, A_Wn (by decide), A_Wo (by omega) z0 (by omega), A_Wo (by omega) z0 (by omega), A_Wn (by decide)]
      exact ho z z0 z1)
    refine ⟨M', ?_, p2, p3'⟩
    refine s_Model_laysBack_2 hF hg ?_
    have e270 : A (W_ N 251 (6400 * p + k) (A N 269 k)) 270 k = A N 270 k := by rw [A_Wn (by decide)]
    simp (config := { maxSteps := 1000000 }) (disch := (first | omega | decide | assumption)) only [ltm_s, ok_n, rd_i, rd_j, fd_i, fd_j, wr_i, wr_j, fw_i, fw_j, ci_s, cj_s, cv_s, dv_n, dw_n, rt_1, rt_b, rt_20, rt_21, okb_0, okb_1, okb_b, nar_0, nar_1, nar_b, i_0, i_1, j_0, j_1, i_lit, j_lit, i_n, iI_add, iI_sub, iI_mul, iI_neg, jI_add, jI_sub, jI_mul, jI_neg, sh_1, an_1, xo_1, di_p, dj_p, i_64A, i_64, j_32, lq_ge, lq_lt, lq_le, lq_gt, lq_eq, i_lt, i_le, i_eq, j_eq, iI_A, jI_J, iI_b, iI_v, jI_v, ↓reduceIte, ite_true, ite_false, Int.reduceEq, Int.reduceLT, Int.reduceLE, Int.reduceAdd, Int.reduceSub, Int.reduceMul, Int.reduceNeg, not_true_eq_false, not_false_eq_true, q, e270, e2.symm, hs, p1]
theorem m_lay (hF : F = am_F T0 g) (hg : GG g) {p : Int} (p0 : 0 ≤ p) (p3 : p < 4) : ∃ M' : am_M, F 59 0 [.ref 219, .int (iI p), .int (iI 0)] [] M = some (none, M') ∧ Ch [251, 252] [] M M' ∧ (∀ t : Int, 0 ≤ t → t < 6400 → A M' 251 (6400 * p + t) = A M 269 t ∧ A M' 252 (6400 * p + t) = A M 270 t) ∧ ∀ z : Int, 0 ≤ z → z < 6400 * p ∨ 6400 * p + 6400 ≤ z → A M' 251 z = A M 251 z ∧ A M' 252 z = A M 252 z := by
  obtain ⟨M', p1, p2, p3'⟩ := m_lay_l hF hg p0 p3 6400 0 M (by omega) Ch.refl (fun t t0 t1 => by omega) (fun _ _ _ => ⟨rfl, rfl⟩)
  refine ⟨M', ?_, p2, p3'⟩
  refine s_Model_laysBack hF hg ?_
  exact p1
theorem pcs_mono {s : Int} {x : Nat} : ∀ {y : Nat}, x ≤ y → pcs s x ≤ pcs s y
  | 0, h => by
    have : x = 0 := by omega
    rw [this]; exact Int.le_refl _
  | y + 1, h => by
    have e : pcs s (y + 1) = pcs s y + bt s y := rfl
    have b := bt_01 (x := s) (i := (y : Int))
    by_cases q : x = y + 1
    · rw [q]; exact Int.le_refl _
    · have := pcs_mono (s := s) (x := x) (y := y) (by omega)
      omega
/-- the model counts the runs of a set, and keeps the first four -/
theorem m_runs_l (hF : F = am_F T0 g) (hg : GG g) {p s n day c : Int} (c0 : 0 ≤ c) (c1 : c ≤ 10) : ∀ (m k : Nat) (N : am_M), (k : Int) + m = c → A N 219 37 = c → (∀ r : Int, 0 ≤ r → r < (k : Int) → bt s r = 1 → pcs s r.toNat < 4 → A N 271 (pcs s r.toNat) = r) → ∃ N' : am_M, (∀ R, F 191 30 [.ref 219, .int (iI p), .int (iI s), .int (iI n), .int (iI day), .int (iI (pcs s c.toNat)), .int (iI c)] [] N' = some R → F 191 30 [.ref 219, .int (iI p), .int (iI s), .int (iI n), .int (iI day), .int (iI (pcs s k)), .int (iI k)] [] N = some R) ∧ Ch [271] [] N N' ∧ ∀ r : Int, 0 ≤ r → r < c → bt s r = 1 → pcs s r.toNat < 4 → A N' 271 (pcs s r.toNat) = r := by
  intro m
  induction m with
  | zero =>
    intro k N hk h37 h
    have e : c.toNat = k := by omega
    have e2 : (k : Int) = c := by omega
    exact ⟨N, fun R hR => by rw [e, ← e2] at hR; exact hR, Ch.refl, fun r r0 r1 => h r r0 (by omega)⟩
  | succ m ih =>
    intro k N hk h37 h
    have u : ¬ c ≤ (k : Int) := by omega
    have hs : (k : Int) + 1 = ((k + 1 : Nat) : Int) := by omega
    have pr := pcs_r (s := s) k
    have et : pcs s (k + 1) = pcs s k + bt s k := rfl
    rcases bt_01 (x := s) (i := (k : Int)) with hb | hb
    · obtain ⟨N', q1, q2, q3⟩ := ih (k + 1) N (by omega) h37 (fun r r0 r1 rb => h r r0 (by
        by_cases e : r = k
        · rw [e] at rb; omega
        · omega) rb)
      rw [et, hb, Int.add_zero] at q1
      refine ⟨N', fun R hR => ?_, q2, q3⟩
      refine s_Model_plan_30 hF hg ?_
      simp (config := { maxSteps := 1000000 }) (disch := (first | omega | decide | assumption)) only [ltm_s, ok_n, rd_i, rd_j, fd_i, fd_j, wr_i, wr_j, fw_i, fw_j, ci_s, cj_s, cv_s, dv_n, dw_n, rt_1, rt_b, rt_20, rt_21, okb_0, okb_1, okb_b, nar_0, nar_1, nar_b, i_0, i_1, j_0, j_1, i_lit, j_lit, i_n, iI_add, iI_sub, iI_mul, iI_neg, jI_add, jI_sub, jI_mul, jI_neg, sh_1, an_1, xo_1, di_p, dj_p, i_64A, i_64, j_32, lq_ge, lq_lt, lq_le, lq_gt, lq_eq, i_lt, i_le, i_eq, j_eq, iI_A, jI_J, iI_b, iI_v, jI_v, ↓reduceIte, ite_true, ite_false, Int.reduceEq, Int.reduceLT, Int.reduceLE, Int.reduceAdd, Int.reduceSub, Int.reduceMul, Int.reduceNeg, not_true_eq_false, not_false_eq_true, h37, u, bt_i, hb, hs]
      exact q1 R hR
    · by_cases q4 : 4 ≤ pcs s k
      · obtain ⟨N', q1, q2, q3⟩ := ih (k + 1) N (by omega) h37 (fun r r0 r1 rb rp => h r r0 (by
          by_cases e : r = k
          · rw [e, Int.toNat_natCast] at rp; omega
          · omega) rb rp)
        rw [et, hb] at q1
        refine ⟨N', fun R hR => ?_, q2, q3⟩
        refine s_Model_plan_30 hF hg ?_
        simp (config := { maxSteps := 1000000 }) (disch := (first | omega | decide | assumption)) only [ltm_s, ok_n, rd_i, rd_j, fd_i, fd_j, wr_i, wr_j, fw_i, fw_j, ci_s, cj_s, cv_s, dv_n, dw_n, rt_1, rt_b, rt_20, rt_21, okb_0, okb_1, okb_b, nar_0, nar_1, nar_b, i_0, i_1, j_0, j_1, i_lit, j_lit, i_n, iI_add, iI_sub, iI_mul, iI_neg, jI_add, jI_sub, jI_mul, jI_neg, sh_1, an_1, xo_1, di_p, dj_p, i_64A, i_64, j_32, lq_ge, lq_lt, lq_le, lq_gt, lq_eq, i_lt, i_le, i_eq, j_eq, iI_A, jI_J, iI_b, iI_v, jI_v, ↓reduceIte, ite_true, ite_false, Int.reduceEq, Int.reduceLT, Int.reduceLE, Int.reduceAdd, Int.reduceSub, Int.reduceMul, Int.reduceNeg, not_true_eq_false, not_false_eq_true, h37, u, bt_i, hb, q4, hs]
        exact q1 R hR
      · have mono := fun (x y : Nat) (hxy : x ≤ y) => pcs_mono (s := s) hxy
        obtain ⟨N', q1, q2, q3⟩ := ih (k + 1) (W_ N 271 (pcs s k) k) (by omega) (by rw [A_Wn (by decide)]; exact h37) (fun r r0 r1 rb rp => by
          by_cases e : r = k
          · rw [e, Int.toNat_natCast, A_Ws (by omega) (by omega)]
          · have hlt : pcs s r.toNat < pcs s k := by
              have a := mono (r.toNat + 1) k (by omega)
              have b : pcs s (r.toNat + 1) = pcs s r.toNat + bt s (r.toNat : Int) := rfl
              rw [Int.toNat_of_nonneg r0, rb] at b
              omega
            have pr2 := pcs_r (s := s) r.toNat
            rw [A_Wo (by omega) (by omega) (by omega)]
            exact h r r0 (by omega) rb rp)
        rw [et, hb] at q1
        refine ⟨N', fun R hR => ?_, (Ch.refl.wm (Or.inl (by decide))).trans q2, q3⟩
        refine s_Model_plan_30 hF hg ?_
        simp (config := { maxSteps := 1000000 }) (disch := (first | omega | decide | assumption)) only [ltm_s, ok_n, rd_i, rd_j, fd_i, fd_j, wr_i, wr_j, fw_i, fw_j, ci_s, cj_s, cv_s, dv_n, dw_n, rt_1, rt_b, rt_20, rt_21, okb_0, okb_1, okb_b, nar_0, nar_1, nar_b, i_0, i_1, j_0, j_1, i_lit, j_lit, i_n, iI_add, iI_sub, iI_mul, iI_neg, jI_add, jI_sub, jI_mul, jI_neg, sh_1, an_1, xo_1, di_p, dj_p, i_64A, i_64, j_32, lq_ge, lq_lt, lq_le, lq_gt, lq_eq, i_lt, i_le, i_eq, j_eq, iI_A, jI_J, iI_b, iI_v, jI_v, ↓reduceIte, ite_true, ite_false, Int.reduceEq, Int.reduceLT, Int.reduceLE, Int.reduceAdd, Int.reduceSub, Int.reduceMul, Int.reduceNeg, not_true_eq_false, not_false_eq_true, h37, u, bt_i, hb, q4, hs]
        exact q1 R hR
end Pl
