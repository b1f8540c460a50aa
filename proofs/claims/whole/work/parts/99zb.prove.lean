/-! PROVE, asked of both -/
section Pv
variable {M0 M N M' : am_M} {g : am_G} {F : am_FT}
/-- a number of the proof -/
noncomputable def prn (x : Int) : Int := if x = FARC then -1 else x / 4294967296
theorem c_wproof_l (hF : F = am_F T0 g) (hg : GG g) (h2 : I2 M0) {c : Int → Int} (hc : ∀ e : Int, 0 ≤ e → e < 2 * nW M0 → c e = FARC ∨ (0 ≤ c e ∧ c e ≤ 7000000000000000)) : ∀ (n k : Nat) (M : am_M), (k : Int) + n = 2 * nW M0 → Ag M0 M → (∀ e : Int, 0 ≤ e → e < 2 * nW M0 → J M 40 e = c e) → (∀ e : Int, 0 ≤ e → e < (k : Int) → A M 211 e = prn (c e)) → ∃ M' : am_M, F 220 10 [.ref 32, .ref 211, .int (iI k)] [] M = some (none, M') ∧ Ch [211] [] M M' ∧ (∀ e : Int, 0 ≤ e → e < 2 * nW M0 → A M' 211 e = prn (c e)) ∧ ∀ i : Int, 2 * nW M0 ≤ i → A M' 211 i = A M 211 i := by
  have hn := h2.1
  have eF : FARC = 9223372036854775807 := rfl
  have h211 : gK g 211 = (1, 100) := hg.1 211 _ (by decide +kernel)
  intro n
  induction n with
  | zero =>
    intro k M hk hA hJ h
    have q : 2 * nW M0 ≤ (k : Int) := by omega
    have lc := c_legCount hF hg hA h2
    refine ⟨M, ?_, Ch.refl, fun e e0 e1 => h e e0 (by omega), fun _ _ => rfl⟩
    refine s_Finder_writeProof_10 hF hg h211 ?_
    simp (config := { maxSteps := 1000000 }) (disch := (first | omega | decide | assumption)) only [ltm_s, ok_n, rd_i, rd_j, fd_i, fd_j, wr_i, wr_j, fw_i, fw_j, ci_s, cj_s, cv_s, dv_n, dw_n, rt_1, rt_b, rt_20, rt_21, okb_0, okb_1, okb_b, nar_0, nar_1, nar_b, i_0, i_1, j_0, j_1, i_lit, j_lit, i_n, iI_add, iI_sub, iI_mul, iI_neg, jI_add, jI_sub, jI_mul, jI_neg, sh_1, an_1, xo_1, di_p, dj_p, i_64A, i_64, j_32, lq_ge, lq_lt, lq_le, lq_gt, lq_eq, i_lt, i_le, i_eq, j_eq, iI_A, jI_J, iI_b, iI_v, jI_v, ↓reduceIte, ite_true, ite_false, Int.reduceEq, Int.reduceLT, Int.reduceLE, Int.reduceAdd, Int.reduceSub, Int.reduceMul, Int.reduceNeg, not_true_eq_false, not_false_eq_true, lc, q]
  | succ n ih =>
    intro k M hk hA hJ h
    have q : ¬ 2 * nW M0 ≤ (k : Int) := by omega
    have q2 : ¬ 100 ≤ (k : Int) := by omega
    have lc := c_legCount hF hg hA h2
    have hs : (k : Int) + 1 = ((k + 1 : Nat) : Int) := by omega
    have ek := hJ k (by omega) (by omega)
    have rk := hc k (by omega) (by omega)
    have hp : -1 ≤ prn (c k) ∧ prn (c k) < 2147483648 := by
      unfold prn
      split <;> omega
    obtain ⟨M', p1, p2, p3, p4⟩ := ih (k + 1) (W_ M 211 k (prn (c k))) (by omega) (hA.w (stN_b rfl _)) (fun e e0 e1 => by rw [J_W]; exact hJ e e0 e1) (fun e e0 e1 => by
      by_cases y : e = k
      · rw [y, A_Ws (by omega) (by omega)]
      · rw [A_Wo (by omega) e0 y]; exact h e e0 (by omega))
    refine ⟨M', ?_, (Ch.refl.wm (Or.inl (by decide))).trans p2, p3, fun i i0 => by rw [p4 i i0, A_Wo (by omega) (by omega) (by omega)]⟩
    refine s_Finder_writeProof_10 hF hg h211 ?_
    by_cases y : c k = FARC
    · have ep : prn (c k) = -1 := if_pos y
      rw [ep] at p1
      rw [y, eF] at ek
      simp (config := { maxSteps := 1000000 }) (disch := (first | omega | decide | assumption)) only [ltm_s, ok_n, rd_i, rd_j, fd_i, fd_j, wr_i, wr_j, fw_i, fw_j, ci_s, cj_s, cv_s, dv_n, dw_n, rt_1, rt_b, rt_20, rt_21, okb_0, okb_1, okb_b, nar_0, nar_1, nar_b, i_0, i_1, j_0, j_1, i_lit, j_lit, i_n, iI_add, iI_sub, iI_mul, iI_neg, jI_add, jI_sub, jI_mul, jI_neg, sh_1, an_1, xo_1, di_p, dj_p, i_64A, i_64, j_32, lq_ge, lq_lt, lq_le, lq_gt, lq_eq, i_lt, i_le, i_eq, j_eq, iI_A, jI_J, iI_b, iI_v, jI_v, ↓reduceIte, ite_true, ite_false, Int.reduceEq, Int.reduceLT, Int.reduceLE, Int.reduceAdd, Int.reduceSub, Int.reduceMul, Int.reduceNeg, not_true_eq_false, not_false_eq_true, lc, q, q2, ek, hs, p1]
    · have ep : prn (c k) = c k / 4294967296 := if_neg y
      have z := rk.resolve_left y
      have y2 : ¬ c k = 9223372036854775807 := by omega
      rw [ep] at p1
      simp (config := { maxSteps := 1000000 }) (disch := (first | omega | decide | assumption)) only [ltm_s, ok_n, rd_i, rd_j, fd_i, fd_j, wr_i, wr_j, fw_i, fw_j, ci_s, cj_s, cv_s, dv_n, dw_n, rt_1, rt_b, rt_20, rt_21, okb_0, okb_1, okb_b, nar_0, nar_1, nar_b, i_0, i_1, j_0, j_1, i_lit, j_lit, i_n, iI_add, iI_sub, iI_mul, iI_neg, jI_add, jI_sub, jI_mul, jI_neg, sh_1, an_1, xo_1, di_p, dj_p, i_64A, i_64, j_32, lq_ge, lq_lt, lq_le, lq_gt, lq_eq, i_lt, i_le, i_eq, j_eq, iI_A, jI_J, iI_b, iI_v, jI_v, ↓reduceIte, ite_true, ite_false, Int.reduceEq, Int.reduceLT, Int.reduceLE, Int.reduceAdd, Int.reduceSub, Int.reduceMul, Int.reduceNeg, not_true_eq_false, not_false_eq_true, lc, q, q2, ek, y2, sar, hs, p1]
theorem m_wproof_l (hF : F = am_F T0 g) (hg : GG g) {w : Int} (w0 : 0 ≤ w) (w1 : w ≤ 40) {c : Int → Int} (hc : ∀ e : Int, 0 ≤ e → e < 2 * w → (c e = FARC ∧ J M0 262 e = 1000000000000) ∨ (c e ≠ FARC ∧ J M0 262 e < 1000000000000 ∧ (0 ≤ c e / 4294967296 ∧ c e / 4294967296 ≤ 200000) ∧ J M0 263 e = c e / 4294967296)) : ∀ (n k : Nat) (M : am_M), k + n = 100 → A M 219 4 = w → (∀ e : Int, J M 262 e = J M0 262 e ∧ J M 263 e = J M0 263 e) → (∀ e : Int, 0 ≤ e → e < (k : Int) → A M 261 e = if e < 2 * w then prn (c e) else 0) → ∃ M' : am_M, F 259 94 [.ref 219, .int (iI k)] [] M = some (some (.int (iI (2 * w))), M') ∧ Ch [261] [] M M' ∧ (∀ e : Int, 0 ≤ e → e < 100 → A M' 261 e = if e < 2 * w then prn (c e) else 0) ∧ ∀ i : Int, 100 ≤ i → A M' 261 i = A M 261 i := by
  intro n
  induction n with
  | zero =>
    intro k M hk h4 hJ h
    have q : 100 ≤ (k : Int) := by omega
    refine ⟨M, ?_, Ch.refl, fun e e0 e1 => h e e0 (by omega), fun _ _ => rfl⟩
    refine s_Model_prove_94 hF hg ?_
    simp (config := { maxSteps := 1000000 }) (disch := (first | omega | decide | assumption)) only [ltm_s, ok_n, rd_i, rd_j, fd_i, fd_j, wr_i, wr_j, fw_i, fw_j, ci_s, cj_s, cv_s, dv_n, dw_n, rt_1, rt_b, rt_20, rt_21, okb_0, okb_1, okb_b, nar_0, nar_1, nar_b, i_0, i_1, j_0, j_1, i_lit, j_lit, i_n, iI_add, iI_sub, iI_mul, iI_neg, jI_add, jI_sub, jI_mul, jI_neg, sh_1, an_1, xo_1, di_p, dj_p, i_64A, i_64, j_32, lq_ge, lq_lt, lq_le, lq_gt, lq_eq, i_lt, i_le, i_eq, j_eq, iI_A, jI_J, iI_b, iI_v, jI_v, ↓reduceIte, ite_true, ite_false, Int.reduceEq, Int.reduceLT, Int.reduceLE, Int.reduceAdd, Int.reduceSub, Int.reduceMul, Int.reduceNeg, not_true_eq_false, not_false_eq_true, q, h4]
  | succ n ih =>
    intro k M hk h4 hJ h
    have q : ¬ 100 ≤ (k : Int) := by omega
    have hs : (k : Int) + 1 = ((k + 1 : Nat) : Int) := by omega
    have go : ∀ v : Int, v = (if (k : Int) < 2 * w then prn (c k) else 0) → -2147483648 ≤ v → v < 2147483648 → ∃ M' : am_M, F 259 94 [.ref 219, .int (iI ((k + 1 : Nat) : Int))] [] (W_ M 261 k v) = some (some (.int (iI (2 * w))), M') ∧ Ch [261] [] M M' ∧ (∀ e : Int, 0 ≤ e → e < 100 → A M' 261 e = if e < 2 * w then prn (c e) else 0) ∧ ∀ i : Int, 100 ≤ i → A M' 261 i = A M 261 i := fun v hv v0 v1 => by
      obtain ⟨M', p1, p2, p3, p4⟩ := ih (k + 1) (W_ M 261 k v) (by omega) (by rw [A_Wn (by decide)]; exact h4) (fun e => by rw [J_W, J_W]; exact hJ e) (fun e e0 e1 => by
        by_cases y : e = k
        · rw [y, A_Ws v0 v1, hv]
        · rw [A_Wo (by omega) e0 y]; exact h e e0 (by omega))
      exact ⟨M', p1, (Ch.refl.wm (Or.inl (by decide))).trans p2, p3, fun i i0 => by rw [p4 i i0, A_Wo (by omega) (by omega) (by omega)]⟩
    have ej := hJ k
    by_cases y : 2 * w ≤ (k : Int)
    · obtain ⟨M', p1, p2⟩ := go 0 (by rw [if_neg (by omega)]) (by omega) (by omega)
      refine ⟨M', ?_, p2⟩
      refine s_Model_prove_94 hF hg ?_
      simp (config := { maxSteps := 1000000 }) (disch := (first | omega | decide | assumption)) only [ltm_s, ok_n, rd_i, rd_j, fd_i, fd_j, wr_i, wr_j, fw_i, fw_j, ci_s, cj_s, cv_s, dv_n, dw_n, rt_1, rt_b, rt_20, rt_21, okb_0, okb_1, okb_b, nar_0, nar_1, nar_b, i_0, i_1, j_0, j_1, i_lit, j_lit, i_n, iI_add, iI_sub, iI_mul, iI_neg, jI_add, jI_sub, jI_mul, jI_neg, sh_1, an_1, xo_1, di_p, dj_p, i_64A, i_64, j_32, lq_ge, lq_lt, lq_le, lq_gt, lq_eq, i_lt, i_le, i_eq, j_eq, iI_A, jI_J, iI_b, iI_v, jI_v, ↓reduceIte, ite_true, ite_false, Int.reduceEq, Int.reduceLT, Int.reduceLE, Int.reduceAdd, Int.reduceSub, Int.reduceMul, Int.reduceNeg, not_true_eq_false, not_false_eq_true, q, h4, y, hs, p1]
    · rcases hc k (by omega) (by omega) with ⟨c1, c2⟩ | ⟨c1, c2, c3, c4⟩
      · have ep : prn (c k) = -1 := if_pos c1
        obtain ⟨M', p1, p2⟩ := go (-1) (by rw [if_pos (by omega), ep]) (by omega) (by omega)
        refine ⟨M', ?_, p2⟩
        refine s_Model_prove_94 hF hg ?_
        have c5 : (1000000000000 : Int) ≤ 1000000000000 := by omega
        simp (config := { maxSteps := 1000000 }) (disch := (first | omega | decide | assumption)) only [ltm_s, ok_n, rd_i, rd_j, fd_i, fd_j, wr_i, wr_j, fw_i, fw_j, ci_s, cj_s, cv_s, dv_n, dw_n, rt_1, rt_b, rt_20, rt_21, okb_0, okb_1, okb_b, nar_0, nar_1, nar_b, i_0, i_1, j_0, j_1, i_lit, j_lit, i_n, iI_add, iI_sub, iI_mul, iI_neg, jI_add, jI_sub, jI_mul, jI_neg, sh_1, an_1, xo_1, di_p, dj_p, i_64A, i_64, j_32, lq_ge, lq_lt, lq_le, lq_gt, lq_eq, i_lt, i_le, i_eq, j_eq, iI_A, jI_J, iI_b, iI_v, jI_v, ↓reduceIte, ite_true, ite_false, Int.reduceEq, Int.reduceLT, Int.reduceLE, Int.reduceAdd, Int.reduceSub, Int.reduceMul, Int.reduceNeg, not_true_eq_false, not_false_eq_true, q, h4, y, ej.1, c2, c5, hs, p1]
      · have ep : prn (c k) = c k / 4294967296 := if_neg c1
        obtain ⟨M', p1, p2⟩ := go (c k / 4294967296) (by rw [if_pos (by omega), ep]) (by omega) (by omega)
        refine ⟨M', ?_, p2⟩
        refine s_Model_prove_94 hF hg ?_
        have c5 : ¬ 1000000000000 ≤ J M0 262 k := by omega
        simp (config := { maxSteps := 1000000 }) (disch := (first | omega | decide | assumption)) only [ltm_s, ok_n, rd_i, rd_j, fd_i, fd_j, wr_i, wr_j, fw_i, fw_j, ci_s, cj_s, cv_s, dv_n, dw_n, rt_1, rt_b, rt_20, rt_21, okb_0, okb_1, okb_b, nar_0, nar_1, nar_b, i_0, i_1, j_0, j_1, i_lit, j_lit, i_n, iI_add, iI_sub, iI_mul, iI_neg, jI_add, jI_sub, jI_mul, jI_neg, sh_1, an_1, xo_1, di_p, dj_p, i_64A, i_64, j_32, lq_ge, lq_lt, lq_le, lq_gt, lq_eq, i_lt, i_le, i_eq, j_eq, iI_A, jI_J, iI_b, iI_v, jI_v, ↓reduceIte, ite_true, ite_false, Int.reduceEq, Int.reduceLT, Int.reduceLE, Int.reduceAdd, Int.reduceSub, Int.reduceMul, Int.reduceNeg, not_true_eq_false, not_false_eq_true, q, h4, y, ej.1, c5, ej.2, c4, hs, p1]
/-- the model, set to the city and to no string -/
theorem m_nostr (hA : Ag M0 M) {day hour kn : Int} (d0 : 0 ≤ day) (d1 : day < 300) (u0 : 0 ≤ hour) (u1 : hour < 24) (k0 : 0 ≤ kn) (k1 : kn < 300) : ∃ N : am_M, N = W_ (W_ (W_ (W_ (W_ (W_ (W_ (W_ (W_ M 219 56 (-1)) 219 57 day) 219 58 hour) 219 59 kn) 219 60 1) 219 67 0) 219 68 0) 219 69 0) 219 70 0 ∧ Ag M0 N ∧ sset (-1, day, hour, kn) 1 N ∧ (∀ e : Int, ofv M0 N e = 0) ∧ Ch [] [(219, 56), (219, 57), (219, 58), (219, 59), (219, 60), (219, 67), (219, 68), (219, 69), (219, 70)] M N := by
  refine ⟨_, rfl, ((((((((hA.w rfl).w rfl).w rfl).w rfl).w rfl).w rfl).w rfl).w rfl).w rfl, ?_, fun e => ?_, ((((((((Ch.refl.wm (Or.inr (by decide))).wm (Or.inr (by decide))).wm (Or.inr (by decide))).wm (Or.inr (by decide))).wm (Or.inr (by decide))).wm (Or.inr (by decide))).wm (Or.inr (by decide))).wm (Or.inr (by decide))).wm (Or.inr (by decide))⟩
  · refine ⟨⟨?_, fun _ => ⟨?_, ?_⟩, ?_⟩, ⟨?_, ?_, ?_, ?_⟩, ?_, Or.inr rfl⟩ <;> simp (config := { maxSteps := 1000000 }) (disch := (first | omega | decide | assumption)) only [ltm_s, ok_n, rd_i, rd_j, fd_i, fd_j, wr_i, wr_j, fw_i, fw_j, ci_s, cj_s, cv_s, dv_n, dw_n, rt_1, rt_b, rt_20, rt_21, okb_0, okb_1, okb_b, nar_0, nar_1, nar_b, i_0, i_1, j_0, j_1, i_lit, j_lit, i_n, iI_add, iI_sub, iI_mul, iI_neg, jI_add, jI_sub, jI_mul, jI_neg, sh_1, an_1, xo_1, di_p, dj_p, i_64A, i_64, j_32, lq_ge, lq_lt, lq_le, lq_gt, lq_eq, i_lt, i_le, i_eq, j_eq, iI_A, jI_J, iI_b, iI_v, jI_v, ↓reduceIte, ite_true, ite_false, Int.reduceEq, Int.reduceLT, Int.reduceLE, Int.reduceAdd, Int.reduceSub, Int.reduceMul, Int.reduceNeg, not_true_eq_false, not_false_eq_true, A_Wn, A_WA, A_Wb, A_Ws, A_Wo, A_X, J_W, J_Xn, J_XJ, J_Xs, J_Xo]
    all_goals first | omega | exact ⟨trivial, trivial⟩ | trivial
  · have s67 : A (W_ (W_ (W_ (W_ (W_ (W_ (W_ (W_ (W_ M 219 56 (-1)) 219 57 day) 219 58 hour) 219 59 kn) 219 60 1) 219 67 0) 219 68 0) 219 69 0) 219 70 0) 219 67 = 0 := by simp (config := { maxSteps := 1000000 }) (disch := (first | omega | decide | assumption)) only [ltm_s, ok_n, rd_i, rd_j, fd_i, fd_j, wr_i, wr_j, fw_i, fw_j, ci_s, cj_s, cv_s, dv_n, dw_n, rt_1, rt_b, rt_20, rt_21, okb_0, okb_1, okb_b, nar_0, nar_1, nar_b, i_0, i_1, j_0, j_1, i_lit, j_lit, i_n, iI_add, iI_sub, iI_mul, iI_neg, jI_add, jI_sub, jI_mul, jI_neg, sh_1, an_1, xo_1, di_p, dj_p, i_64A, i_64, j_32, lq_ge, lq_lt, lq_le, lq_gt, lq_eq, i_lt, i_le, i_eq, j_eq, iI_A, jI_J, iI_b, iI_v, jI_v, ↓reduceIte, ite_true, ite_false, Int.reduceEq, Int.reduceLT, Int.reduceLE, Int.reduceAdd, Int.reduceSub, Int.reduceMul, Int.reduceNeg, not_true_eq_false, not_false_eq_true, A_Wn, A_WA, A_Wb, A_Ws, A_Wo, A_X, J_W, J_Xn, J_XJ, J_Xs, J_Xo]
    have s68 : A (W_ (W_ (W_ (W_ (W_ (W_ (W_ (W_ (W_ M 219 56 (-1)) 219 57 day) 219 58 hour) 219 59 kn) 219 60 1) 219 67 0) 219 68 0) 219 69 0) 219 70 0) 219 68 = 0 := by simp (config := { maxSteps := 1000000 }) (disch := (first | omega | decide | assumption)) only [ltm_s, ok_n, rd_i, rd_j, fd_i, fd_j, wr_i, wr_j, fw_i, fw_j, ci_s, cj_s, cv_s, dv_n, dw_n, rt_1, rt_b, rt_20, rt_21, okb_0, okb_1, okb_b, nar_0, nar_1, nar_b, i_0, i_1, j_0, j_1, i_lit, j_lit, i_n, iI_add, iI_sub, iI_mul, iI_neg, jI_add, jI_sub, jI_mul, jI_neg, sh_1, an_1, xo_1, di_p, dj_p, i_64A, i_64, j_32, lq_ge, lq_lt, lq_le, lq_gt, lq_eq, i_lt, i_le, i_eq, j_eq, iI_A, jI_J, iI_b, iI_v, jI_v, ↓reduceIte, ite_true, ite_false, Int.reduceEq, Int.reduceLT, Int.reduceLE, Int.reduceAdd, Int.reduceSub, Int.reduceMul, Int.reduceNeg, not_true_eq_false, not_false_eq_true, A_Wn, A_WA, A_Wb, A_Ws, A_Wo, A_X, J_W, J_Xn, J_XJ, J_Xs, J_Xo]
    have s69 : A (W_ (W_ (W_ (W_ (W_ (W_ (W_ (W_ (W_ M 219 56 (-1)) 219 57 day) 219 58 hour) 219 59 kn) 219 60 1) 219 67 0) 219 68 0) 219 69 0) 219 70 0) 219 69 = 0 := by simp (config := { maxSteps := 1000000 }) (disch := (first | omega | decide | assumption)) only [ltm_s, ok_n, rd_i, rd_j, fd_i, fd_j, wr_i, wr_j, fw_i, fw_j, ci_s, cj_s, cv_s, dv_n, dw_n, rt_1, rt_b, rt_20, rt_21, okb_0, okb_1, okb_b, nar_0, nar_1, nar_b, i_0, i_1, j_0, j_1, i_lit, j_lit, i_n, iI_add, iI_sub, iI_mul, iI_neg, jI_add, jI_sub, jI_mul, jI_neg, sh_1, an_1, xo_1, di_p, dj_p, i_64A, i_64, j_32, lq_ge, lq_lt, lq_le, lq_gt, lq_eq, i_lt, i_le, i_eq, j_eq, iI_A, jI_J, iI_b, iI_v, jI_v, ↓reduceIte, ite_true, ite_false, Int.reduceEq, Int.reduceLT, Int.reduceLE, Int.reduceAdd, Int.reduceSub, Int.reduceMul, Int.reduceNeg, not_true_eq_false, not_false_eq_true, A_Wn, A_WA, A_Wb, A_Ws, A_Wo, A_X, J_W, J_Xn, J_XJ, J_Xs, J_Xo]
    have s70 : A (W_ (W_ (W_ (W_ (W_ (W_ (W_ (W_ (W_ M 219 56 (-1)) 219 57 day) 219 58 hour) 219 59 kn) 219 60 1) 219 67 0) 219 68 0) 219 69 0) 219 70 0) 219 70 = 0 := by simp (config := { maxSteps := 1000000 }) (disch := (first | omega | decide | assumption)) only [ltm_s, ok_n, rd_i, rd_j, fd_i, fd_j, wr_i, wr_j, fw_i, fw_j, ci_s, cj_s, cv_s, dv_n, dw_n, rt_1, rt_b, rt_20, rt_21, okb_0, okb_1, okb_b, nar_0, nar_1, nar_b, i_0, i_1, j_0, j_1, i_lit, j_lit, i_n, iI_add, iI_sub, iI_mul, iI_neg, jI_add, jI_sub, jI_mul, jI_neg, sh_1, an_1, xo_1, di_p, dj_p, i_64A, i_64, j_32, lq_ge, lq_lt, lq_le, lq_gt, lq_eq, i_lt, i_le, i_eq, j_eq, iI_A, jI_J, iI_b, iI_v, jI_v, ↓reduceIte, ite_true, ite_false, Int.reduceEq, Int.reduceLT, Int.reduceLE, Int.reduceAdd, Int.reduceSub, Int.reduceMul, Int.reduceNeg, not_true_eq_false, not_false_eq_true, A_Wn, A_WA, A_Wb, A_Ws, A_Wo, A_X, J_W, J_Xn, J_XJ, J_Xs, J_Xo]
    have z : ∀ t u : Int, (0 - 0) * t - (0 - 0) * u = 0 := fun t u => by rw [Int.sub_self, Int.zero_mul, Int.zero_mul]; rfl
    unfold ofv
    dsimp only
    rw [s67, s68, s69, s70, z, if_pos (Int.le_refl 0)]
theorem b_prove (hF : F = am_F T0 g) (hg : GG g) (hI : Inv M) {a b hour : Int} (a1 : -2147483648 ≤ a) (a2 : a < 2147483648) (b1 : -2147483648 ≤ b) (b2 : b < 2147483648) (u1 : -2147483648 ≤ hour) (u2 : hour < 2147483648) :
    ∃ (r : Int) (M1 M2 : am_M), F 245 0 [.ref 0, .int (iI a), .int (iI b), .int (iI hour)] [] M = some (some (.int (iI r)), M1) ∧ F 259 0 [.ref 219, .int (iI a), .int (iI b), .int (iI hour)] [] M1 = some (some (.int (iI r)), M2) ∧ Inv M2 := by
  have hI' := hI
  obtain ⟨h1, h2, h3, h4, h5, h6, h7, h8, h9, h10, h11, h12, h13, h14, h15, h16, h17, h18, h19, hm, ht⟩ := hI
  have hd := h4.1
  have h81 := h8.1
  have e180 := h8.2
  have hn := h2.1
  have hA := Ag.refl M
  by_cases q1 : (a < 0 ∨ nD M - 1 < a) ∨ b < 0 ∨ nD M - 1 < b
  · refine ⟨-1, M, M, ?_, ?_, hI'⟩
    · refine s_RunSayer_prove hF hg ?_
      simp (config := { maxSteps := 1000000 }) (disch := (first | omega | decide | assumption)) only [ltm_s, ok_n, rd_i, rd_j, fd_i, fd_j, wr_i, wr_j, fw_i, fw_j, ci_s, cj_s, cv_s, dv_n, dw_n, rt_1, rt_b, rt_20, rt_21, okb_0, okb_1, okb_b, nar_0, nar_1, nar_b, i_0, i_1, j_0, j_1, i_lit, j_lit, i_n, iI_add, iI_sub, iI_mul, iI_neg, jI_add, jI_sub, jI_mul, jI_neg, sh_1, an_1, xo_1, di_p, dj_p, i_64A, i_64, j_32, lq_ge, lq_lt, lq_le, lq_gt, lq_eq, i_lt, i_le, i_eq, j_eq, iI_A, jI_J, iI_b, iI_v, jI_v, ↓reduceIte, ite_true, ite_false, Int.reduceEq, Int.reduceLT, Int.reduceLE, Int.reduceAdd, Int.reduceSub, Int.reduceMul, Int.reduceNeg, not_true_eq_false, not_false_eq_true, c_noDoors hF hg hA h4, bI_t q1]
    · refine s_Model_prove hF hg ?_
      by_cases q2 : 0 ≤ a ∧ a ≤ nD M - 1
      · have q3 : ¬ (0 ≤ b ∧ b ≤ nD M - 1) := by omega
        simp (config := { maxSteps := 1000000 }) (disch := (first | omega | decide | assumption)) only [ltm_s, ok_n, rd_i, rd_j, fd_i, fd_j, wr_i, wr_j, fw_i, fw_j, ci_s, cj_s, cv_s, dv_n, dw_n, rt_1, rt_b, rt_20, rt_21, okb_0, okb_1, okb_b, nar_0, nar_1, nar_b, i_0, i_1, j_0, j_1, i_lit, j_lit, i_n, iI_add, iI_sub, iI_mul, iI_neg, jI_add, jI_sub, jI_mul, jI_neg, sh_1, an_1, xo_1, di_p, dj_p, i_64A, i_64, j_32, lq_ge, lq_lt, lq_le, lq_gt, lq_eq, i_lt, i_le, i_eq, j_eq, iI_A, jI_J, iI_b, iI_v, jI_v, ↓reduceIte, ite_true, ite_false, Int.reduceEq, Int.reduceLT, Int.reduceLE, Int.reduceAdd, Int.reduceSub, Int.reduceMul, Int.reduceNeg, not_true_eq_false, not_false_eq_true, m_isDoor hF hg hA h4, bI_t q2, bI_f q3]
      · simp (config := { maxSteps := 1000000 }) (disch := (first | omega | decide | assumption)) only [ltm_s, ok_n, rd_i, rd_j, fd_i, fd_j, wr_i, wr_j, fw_i, fw_j, ci_s, cj_s, cv_s, dv_n, dw_n, rt_1, rt_b, rt_20, rt_21, okb_0, okb_1, okb_b, nar_0, nar_1, nar_b, i_0, i_1, j_0, j_1, i_lit, j_lit, i_n, iI_add, iI_sub, iI_mul, iI_neg, jI_add, jI_sub, jI_mul, jI_neg, sh_1, an_1, xo_1, di_p, dj_p, i_64A, i_64, j_32, lq_ge, lq_lt, lq_le, lq_gt, lq_eq, i_lt, i_le, i_eq, j_eq, iI_A, jI_J, iI_b, iI_v, jI_v, ↓reduceIte, ite_true, ite_false, Int.reduceEq, Int.reduceLT, Int.reduceLE, Int.reduceAdd, Int.reduceSub, Int.reduceMul, Int.reduceNeg, not_true_eq_false, not_false_eq_true, m_isDoor hF hg hA h4, bI_f q2]
  have ma : 0 ≤ a ∧ a ≤ nD M - 1 := by omega
  have mb : 0 ≤ b ∧ b ≤ nD M - 1 := by omega
  by_cases q2 : a = b
  · refine ⟨-2, M, M, ?_, ?_, hI'⟩
    · subst q2
      refine s_RunSayer_prove hF hg ?_
      simp (config := { maxSteps := 1000000 }) (disch := (first | omega | decide | assumption)) only [ltm_s, ok_n, rd_i, rd_j, fd_i, fd_j, wr_i, wr_j, fw_i, fw_j, ci_s, cj_s, cv_s, dv_n, dw_n, rt_1, rt_b, rt_20, rt_21, okb_0, okb_1, okb_b, nar_0, nar_1, nar_b, i_0, i_1, j_0, j_1, i_lit, j_lit, i_n, iI_add, iI_sub, iI_mul, iI_neg, jI_add, jI_sub, jI_mul, jI_neg, sh_1, an_1, xo_1, di_p, dj_p, i_64A, i_64, j_32, lq_ge, lq_lt, lq_le, lq_gt, lq_eq, i_lt, i_le, i_eq, j_eq, iI_A, jI_J, iI_b, iI_v, jI_v, ↓reduceIte, ite_true, ite_false, Int.reduceEq, Int.reduceLT, Int.reduceLE, Int.reduceAdd, Int.reduceSub, Int.reduceMul, Int.reduceNeg, not_true_eq_false, not_false_eq_true, c_noDoors hF hg hA h4, bI_f q1]
    · subst q2
      refine s_Model_prove hF hg ?_
      simp (config := { maxSteps := 1000000 }) (disch := (first | omega | decide | assumption)) only [ltm_s, ok_n, rd_i, rd_j, fd_i, fd_j, wr_i, wr_j, fw_i, fw_j, ci_s, cj_s, cv_s, dv_n, dw_n, rt_1, rt_b, rt_20, rt_21, okb_0, okb_1, okb_b, nar_0, nar_1, nar_b, i_0, i_1, j_0, j_1, i_lit, j_lit, i_n, iI_add, iI_sub, iI_mul, iI_neg, jI_add, jI_sub, jI_mul, jI_neg, sh_1, an_1, xo_1, di_p, dj_p, i_64A, i_64, j_32, lq_ge, lq_lt, lq_le, lq_gt, lq_eq, i_lt, i_le, i_eq, j_eq, iI_A, jI_J, iI_b, iI_v, jI_v, ↓reduceIte, ite_true, ite_false, Int.reduceEq, Int.reduceLT, Int.reduceLE, Int.reduceAdd, Int.reduceSub, Int.reduceMul, Int.reduceNeg, not_true_eq_false, not_false_eq_true, m_isDoor hF hg hA h4, bI_t ma]
  by_cases q3 : hour < 0 ∨ 23 < hour
  · refine ⟨-2, M, M, ?_, ?_, hI'⟩
    · refine s_RunSayer_prove hF hg ?_
      simp (config := { maxSteps := 1000000 }) (disch := (first | omega | decide | assumption)) only [ltm_s, ok_n, rd_i, rd_j, fd_i, fd_j, wr_i, wr_j, fw_i, fw_j, ci_s, cj_s, cv_s, dv_n, dw_n, rt_1, rt_b, rt_20, rt_21, okb_0, okb_1, okb_b, nar_0, nar_1, nar_b, i_0, i_1, j_0, j_1, i_lit, j_lit, i_n, iI_add, iI_sub, iI_mul, iI_neg, jI_add, jI_sub, jI_mul, jI_neg, sh_1, an_1, xo_1, di_p, dj_p, i_64A, i_64, j_32, lq_ge, lq_lt, lq_le, lq_gt, lq_eq, i_lt, i_le, i_eq, j_eq, iI_A, jI_J, iI_b, iI_v, jI_v, ↓reduceIte, ite_true, ite_false, Int.reduceEq, Int.reduceLT, Int.reduceLE, Int.reduceAdd, Int.reduceSub, Int.reduceMul, Int.reduceNeg, not_true_eq_false, not_false_eq_true, c_noDoors hF hg hA h4, bI_f q1, q2, c_noHour hF hg, bI_t q3]
    · refine s_Model_prove hF hg ?_
      have q4 : ¬ (0 ≤ hour ∧ hour ≤ 23) := by omega
      simp (config := { maxSteps := 1000000 }) (disch := (first | omega | decide | assumption)) only [ltm_s, ok_n, rd_i, rd_j, fd_i, fd_j, wr_i, wr_j, fw_i, fw_j, ci_s, cj_s, cv_s, dv_n, dw_n, rt_1, rt_b, rt_20, rt_21, okb_0, okb_1, okb_b, nar_0, nar_1, nar_b, i_0, i_1, j_0, j_1, i_lit, j_lit, i_n, iI_add, iI_sub, iI_mul, iI_neg, jI_add, jI_sub, jI_mul, jI_neg, sh_1, an_1, xo_1, di_p, dj_p, i_64A, i_64, j_32, lq_ge, lq_lt, lq_le, lq_gt, lq_eq, i_lt, i_le, i_eq, j_eq, iI_A, jI_J, iI_b, iI_v, jI_v, ↓reduceIte, ite_true, ite_false, Int.reduceEq, Int.reduceLT, Int.reduceLE, Int.reduceAdd, Int.reduceSub, Int.reduceMul, Int.reduceNeg, not_true_eq_false, not_false_eq_true, m_isDoor hF hg hA h4, bI_t ma, bI_t mb, q2, m_isHour hF hg, bI_f q4]
  have q4 : 0 ≤ hour ∧ hour ≤ 23 := by omega
  have eF : FARC = 9223372036854775807 := rfl
  -- the class
  obtain ⟨N1, p1, k1, s1, -⟩ := c_setCity hF hg hA h2 h6 h7 hm (day := toD M) (hour := hour) (kn := toD M) (by omega) (by omega) (by omega) (by omega) (by omega) (by omega)
  have A1 : Ag M N1 := k1.ag (by decide)
  have lc := c_legCount hF hg A1 h2
  have h211 : gK g 211 = (1, 100) := hg.1 211 _ (by decide +kernel)
  obtain ⟨N2, p2, c2, t2, n2, z2⟩ := c_become hF hg (a := 210) ⟨hg.1 210 _ (by decide +kernel), hg.2.1 210 2 _ (by decide +kernel), h211⟩ (M := N1) (t := 2) (n := 2 * nW M) (by omega) (by omega) (by omega) (by omega)
  have z2' : ∀ i : Int, 0 ≤ i → i < 100 → A N2 211 i = 0 := z2
  have A2 : Ag M N2 := A1.trans (ch_ag c2 rfl)
  have s2 : fset M (-1, toD M, hour, toD M) N2 := fset_r s1 (fun x x0 x1 z => congrArg Int32.toInt (c2 x z.toNat (by simp only [List.mem_cons, List.not_mem_nil, or_false]; omega) (by simp only [List.not_mem_nil, not_false_eq_true])).1)
  obtain ⟨N3, p3, k3, s3, w3, bd, B⟩ := c_spread hF hg A2 h1 h2 h3 h4 (md := (-1, toD M, hour, toD M)) (by_ := 1) (a := a) (b := b) (Or.inr rfl) q4.1 (by show hour < 24; omega) ma.1 (by omega) mb.1 (by omega) s2
  have A3 : Ag M N3 := A2.trans (k3.ag (by decide))
  obtain ⟨N4, p4, c4, e4, f4_⟩ := c_wproof_l hF hg h2 (c := J N3 40) (fun e e0 e1 => by
    have r := B.1 e e0 (by omega)
    have r2 := bd e e0 e1
    by_cases q : J N3 40 e = FARC
    · exact Or.inl q
    · have r3 := r2 q
      exact Or.inr ⟨(r.resolve_left q).1, r3.1⟩) (2 * nW M).toNat 0 N3 (by omega) A3 (fun _ _ _ => rfl) (fun e e0 e1 => by omega)
  have C1 : Ch [32, 33, 34, 35, 36, 37, 38, 39, 40, 41, 210, 211] [] M N4 := (((k1.ch.mono rfl).trans (c2.mono rfl)).trans (k3.ch.mono rfl)).trans (c4.mono rfl)
  have A4 : Ag M N4 := ch_ag C1 rfl
  have wp : F 220 0 [.ref 32, .ref 211, .int (iI a), .int (iI b)] [] N2 = some (none, N4) := by
    refine s_Finder_writeProof hF hg h211 ?_
    simp (config := { maxSteps := 1000000 }) (disch := (first | omega | decide | assumption)) only [ltm_s, ok_n, rd_i, rd_j, fd_i, fd_j, wr_i, wr_j, fw_i, fw_j, ci_s, cj_s, cv_s, dv_n, dw_n, rt_1, rt_b, rt_20, rt_21, okb_0, okb_1, okb_b, nar_0, nar_1, nar_b, i_0, i_1, j_0, j_1, i_lit, j_lit, i_n, iI_add, iI_sub, iI_mul, iI_neg, jI_add, jI_sub, jI_mul, jI_neg, sh_1, an_1, xo_1, di_p, dj_p, i_64A, i_64, j_32, lq_ge, lq_lt, lq_le, lq_gt, lq_eq, i_lt, i_le, i_eq, j_eq, iI_A, jI_J, iI_b, iI_v, jI_v, ↓reduceIte, ite_true, ite_false, Int.reduceEq, Int.reduceLT, Int.reduceLE, Int.reduceAdd, Int.reduceSub, Int.reduceMul, Int.reduceNeg, not_true_eq_false, not_false_eq_true, p3]
    exact p4
  -- the model
  obtain ⟨K1, e1, AK, sK, oK, cK⟩ := m_nostr A4 (day := toD M) (hour := hour) (kn := toD M) (by omega) (by omega) (by omega) (by omega) (by omega) (by omega)
  have hmk : mok M (-1, toD M, hour, toD M) := ⟨⟨Int.le_refl _, by show (-1 : Int) < _; have := h15.1; omega, by show (-1 : Int) < 4; omega⟩, fun _ => ⟨⟨by show 0 ≤ toD M; omega, by show toD M < 300; omega⟩, by show 0 ≤ toD M; omega, by show toD M < 300; omega⟩, q4.1, by show hour < 24; omega⟩
  obtain ⟨K2, l1, l2, l3, l4⟩ := m_letsDown hF hg AK h1 h2 h4 h6 h7 h8 h9 hmk (by_ := 1) (b := b) mb.1 (by omega) sK
  have eo : ofv M K2 = ofv M K1 := ofv_ke l2
  rw [← eo] at l4
  have oK2 : ∀ e : Int, ofv M K2 e = 0 := fun e => by rw [eo]; exact oK e
  have fe := fun (e : Int) (e0 : 0 ≤ e) (e1 : e < 2 * nW M) => feet_eq h1 h2 h4 (md := (-1, toD M, hour, toD M)) q4.1 (by show hour < 24; omega) (a := a) (b := b) ma.1 (by omega) mb.1 (by omega) B (fun e e0 e1 hne => ⟨(bd e e0 e1 hne).1, (bd e e0 e1 hne).2 rfl⟩) oK2 (sset_ke sK l2).2.1 l3 l4 e0 e1
  obtain ⟨K3, e3⟩ : ∃ y : am_M, y = W_ K2 259 0 2 := ⟨_, rfl⟩
  obtain ⟨K4, e4'⟩ : ∃ y : am_M, y = W_ K3 260 0 (2 * nW M) := ⟨_, rfl⟩
  have c3 : Ch [259, 260] [] K2 K4 := by
    rw [e4', e3]; exact (Ch.refl.wm (Or.inl (by decide))).wm (Or.inl (by decide))
  have k12 : Ch [262, 263] [] K1 K2 := l2.ch
  have f4 : A K3 219 4 = nW M := by
    rw [e3, A_Wn (by decide), k12.f (a := 219) (z := 4) rfl]
    exact ag AK rfl
  have f5 : A K4 219 4 = nW M := by
    rw [e4', A_Wn (by decide)]; exact f4
  obtain ⟨M2, x1, x2, x3, x4⟩ := m_wproof_l hF hg (M0 := K2) (w := nW M) (by omega) (by omega) (c := J N3 40) fe 100 0 K4 (by omega) f5 (fun e => ⟨c3.j rfl rfl, c3.j rfl rfl⟩) (fun e e0 e1 => by omega)
  have C2 : Ch [259, 260, 261, 262, 263] [(219, 56), (219, 57), (219, 58), (219, 59), (219, 60), (219, 67), (219, 68), (219, 69), (219, 70)] N4 M2 := (((cK.mono rfl).trans (k12.mono rfl)).trans (c3.mono rfl)).trans (x2.mono rfl)
  have C : Ch [32, 33, 34, 35, 36, 37, 38, 39, 40, 41, 210, 211, 259, 260, 261, 262, 263] [(219, 56), (219, 57), (219, 58), (219, 59), (219, 60), (219, 67), (219, 68), (219, 69), (219, 70)] M M2 := (C1.mono rfl).trans (C2.mono rfl)
  have m259 : A M2 259 0 = 2 := by
    rw [x2.a (a := 259) rfl, e4', A_Wn (by decide), e3, A_Ws (by omega) (by omega)]
  have m260 : A M2 260 0 = 2 * nW M := by
    rw [x2.a (a := 260) rfl, e4', A_Ws (by omega) (by omega)]
  have r210 : ∀ z, A M2 210 z = A N2 210 z := fun z => by
    rw [C2.a (a := 210) rfl, c4.a (a := 210) rfl, k3.a (a := 210) (by decide)]
  have r211 : ∀ z, A M2 211 z = A N4 211 z := fun z => C2.a (a := 211) rfl
  have b0 : B18 M2 0 := by
    have t0 : (0 : Int).toNat = 0 := rfl
    have v210 : A M2 210 0 = A M2 259 0 := by rw [r210, t2, m259]
    have v2101 : A M2 210 1 = A M2 260 0 := by rw [r210, n2, m260]
    have v211 : ∀ i : Int, 0 ≤ i → i < 100 → A M2 211 i = A M2 261 i := fun i i0 i1 => by
      rw [r211, x3 i i0 i1]
      by_cases y : i < 2 * nW M
      · rw [if_pos y]; exact e4 i i0 y
      · rw [if_neg y, f4_ i (by omega), k3.a (a := 211) (by decide)]
        exact z2' i i0 i1
    unfold B18
    simp only [t0, Nat.mul_zero, Nat.add_zero, Int.mul_zero, Int.zero_add]
    exact ⟨by rw [m259]; omega, by rw [m260]; omega, v210, v2101, v211⟩
  have i18 : I18 M2 := by
    refine I18_up (s := 0) h18 (by omega) (by omega) b0 (fun x x0 x1 y0 y1 z => ?_) (fun i i0 i1 => ?_) (fun i i0 i1 => ?_) (fun i i0 i1 => ?_)
    · have t0 : (0 : Int).toNat = 0 := rfl
      rw [t0] at y0 y1
      exact congrArg Int32.toInt (C x z.toNat (by simp only [List.mem_cons, List.not_mem_nil, or_false]; omega) (by simp only [List.mem_cons, Prod.mk.injEq, List.not_mem_nil, or_false]; omega)).1
    · rw [x2.a (a := 259) rfl, e4', A_Wn (by decide), e3, A_Wo (by omega) i0 i1, k12.a (a := 259) rfl, cK.a (a := 259) rfl, C1.a (a := 259) rfl]
    · rw [x2.a (a := 260) rfl, e4', A_Wo (by omega) i0 i1, e3, A_Wn (by decide), k12.a (a := 260) rfl, cK.a (a := 260) rfl, C1.a (a := 260) rfl]
    · rw [x4 i (by omega), c3.a (a := 261) rfl, k12.a (a := 261) rfl, cK.a (a := 261) rfl, C1.a (a := 261) rfl]
  have im : Imk M2 := by
    unfold Imk
    simp only [C2.a (a := 32) rfl, C2.a (a := 35) rfl, C2.a (a := 36) rfl, c4.a (a := 32) rfl, c4.a (a := 35) rfl, c4.a (a := 36) rfl]
    exact s3.1
  refine ⟨2 * nW M, N4, M2, ?_, ?_, ⟨C.i1 rfl h1, C.i2 rfl h2, C.i3 rfl h3, C.i4 rfl h4, C.i5 rfl h5, C.i6 rfl h6, C.i7 rfl h7, C.i8 rfl h8, C.i9 rfl h9, C.i10 rfl h10, C.i11 rfl h11, C.i12 rfl h12, C.i13 rfl h13, C.i14 rfl h14, C.i15 rfl h15, C.i16 rfl h16, C.i17 rfl h17, i18, C.i19 rfl h19, im, C.itd rfl ht⟩⟩
  · refine s_RunSayer_prove hF hg ?_
    simp (config := { maxSteps := 1000000 }) (disch := (first | omega | decide | assumption)) only [ltm_s, ok_n, rd_i, rd_j, fd_i, fd_j, wr_i, wr_j, fw_i, fw_j, ci_s, cj_s, cv_s, dv_n, dw_n, rt_1, rt_b, rt_20, rt_21, okb_0, okb_1, okb_b, nar_0, nar_1, nar_b, i_0, i_1, j_0, j_1, i_lit, j_lit, i_n, iI_add, iI_sub, iI_mul, iI_neg, jI_add, jI_sub, jI_mul, jI_neg, sh_1, an_1, xo_1, di_p, dj_p, i_64A, i_64, j_32, lq_ge, lq_lt, lq_le, lq_gt, lq_eq, i_lt, i_le, i_eq, j_eq, iI_A, jI_J, iI_b, iI_v, jI_v, ↓reduceIte, ite_true, ite_false, Int.reduceEq, Int.reduceLT, Int.reduceLE, Int.reduceAdd, Int.reduceSub, Int.reduceMul, Int.reduceNeg, not_true_eq_false, not_false_eq_true, c_noDoors hF hg hA h4, bI_f q1, q2, c_noHour hF hg, bI_f q3, e180, p1, lc, p2, wp]
  · have e14 : A N4 219 14 = toD M := ag A4 rfl
    have ar := m_asReal (M := N4) hF hg (d := toD M) (h := hour) (k := toD M) (b := 1)
    refine s_Model_prove hF hg ?_
    simp (config := { maxSteps := 1000000 }) (disch := (first | omega | decide | assumption)) only [ltm_s, ok_n, rd_i, rd_j, fd_i, fd_j, wr_i, wr_j, fw_i, fw_j, ci_s, cj_s, cv_s, dv_n, dw_n, rt_1, rt_b, rt_20, rt_21, okb_0, okb_1, okb_b, nar_0, nar_1, nar_b, i_0, i_1, j_0, j_1, i_lit, j_lit, i_n, iI_add, iI_sub, iI_mul, iI_neg, jI_add, jI_sub, jI_mul, jI_neg, sh_1, an_1, xo_1, di_p, dj_p, i_64A, i_64, j_32, lq_ge, lq_lt, lq_le, lq_gt, lq_eq, i_lt, i_le, i_eq, j_eq, iI_A, jI_J, iI_b, iI_v, jI_v, ↓reduceIte, ite_true, ite_false, Int.reduceEq, Int.reduceLT, Int.reduceLE, Int.reduceAdd, Int.reduceSub, Int.reduceMul, Int.reduceNeg, not_true_eq_false, not_false_eq_true, m_isDoor hF hg A4 h4, bI_t ma, bI_t mb, q2, m_isHour hF hg, bI_t q4, e14, ar, e1.symm, l1, e3.symm, f4, e4'.symm]
    exact x1
end Pv
