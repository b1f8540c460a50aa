/-! BOUND: whether the numbers are right, by both -/
theorem all_s {P : Int → Prop} {i n : Int} (h : i < n) : (∀ k : Int, i ≤ k → k < n → P k) ↔ P i ∧ ∀ k : Int, i + 1 ≤ k → k < n → P k :=
  ⟨fun q => ⟨q i (Int.le_refl i) h, fun k k0 k1 => q k (by omega) k1⟩, fun q k k0 k1 => by
    by_cases e : k = i
    · rw [e]; exact q.1
    · exact q.2 k (by omega) k1⟩
/-- nothing is against leg f (its number m) behind a leg with the number n -/
def rgt (M0 : am_M) (hour b n m f : Int) : Prop := (n = -1 → ¬ gol M0 b f ∧ m < 0) ∧ (gol M0 b f → n ≤ tdr M0 b f) ∧ (0 ≤ m → n ≤ prc M0 (f / 2) hour + m)
section Rg
variable {M0 M N : am_M} {g : am_G} {F : am_FT}
theorem m_right_l (hF : F = am_F T0 g) (hg : GG g) (hA : Ag M0 M) (h1 : I1 M0) (h2 : I2 M0) (h4 : I4 M0) (h6 : I6 M0) (h7 : I7 M0) (h8 : I8 M0) (h9 : I9 M0) {md : Int × Int × Int × Int} (hmd : mok M0 md) (hs : mset md M) {b e o n : Int} {v : Int → Int} (b0 : 0 ≤ b) (b1 : b < nD M0) (e0 : 0 ≤ e) (e1 : e < 2 * nW M0) (o0 : 0 ≤ o) (o1 : o ≤ 300) (n0 : -1 ≤ n) (n1 : n < 2147483648) (hv : ∀ f : Int, 0 ≤ f → f < 2 * nW M0 → A M 261 (o + f) = v f) : ∀ mm k : Nat, (k : Int) + mm = 2 * nW M0 → F 250 21 [.ref 219, .int (iI e), .int (iI b), .int (iI o), .int (iI n), .int (iI k)] [] M = some (some (.int (iI (bI (∀ f : Int, (k : Int) ≤ f → f < 2 * nW M0 → (may M0 md e f → rgt M0 md.2.2.1 b n (v f) f))))), M) := by
  have hn := h2.1
  have hd := h4.1
  have s58 := hs.2.2
  have e4 : A M 219 4 = nW M0 := ag hA rfl
  have e228 : A M 228 b = A M0 228 b := agA hA rfl
  have u0 := hmd.2.2.1
  have u1 := hmd.2.2.2
  intro mm
  induction mm with
  | zero =>
    intro k hk
    have q : 2 * nW M0 ≤ (k : Int) := by omega
    rw [bI_t (fun f f0 f1 => by omega)]
    refine s_Model_isRight_21 hF hg ?_
    simp (config := { maxSteps := 1000000 }) (disch := (first | omega | decide | assumption)) only [ltm_s, ok_n, rd_i, rd_j, fd_i, fd_j, wr_i, wr_j, fw_i, fw_j, ci_s, cj_s, cv_s, dv_n, dw_n, rt_1, rt_b, rt_20, rt_21, okb_0, okb_1, okb_b, nar_0, nar_1, nar_b, i_0, i_1, j_0, j_1, i_lit, j_lit, i_n, iI_add, iI_sub, iI_mul, iI_neg, jI_add, jI_sub, jI_mul, jI_neg, sh_1, an_1, xo_1, di_p, dj_p, i_64A, i_64, j_32, lq_ge, lq_lt, lq_le, lq_gt, lq_eq, i_lt, i_le, i_eq, j_eq, iI_A, jI_J, iI_b, iI_v, jI_v, ↓reduceIte, ite_true, ite_false, Int.reduceEq, Int.reduceLT, Int.reduceLE, Int.reduceAdd, Int.reduceSub, Int.reduceMul, Int.reduceNeg, not_true_eq_false, not_false_eq_true, e4, q]
  | succ mm ih =>
    intro k hk
    have q : ¬ 2 * nW M0 ≤ (k : Int) := by omega
    have hs' : (k : Int) + 1 = ((k + 1 : Nat) : Int) := by omega
    have i1 := ih (k + 1) (by omega)
    have k1 : (k : Int) < 2 * nW M0 := by omega
    have mt := m_mayTurn hF hg hA h1 h2 h6 h7 h8 h9 hs hmd e0 e1 (f := k) (by omega) (by omega)
    have ev := hv k (by omega) (by omega)
    have vr : -2147483648 ≤ v k ∧ v k < 2147483648 := by
      rw [← ev]; exact ⟨A_lo _ _ _, A_hi _ _ _⟩
    have yes : (may M0 md e k → rgt M0 md.2.2.1 b n (v k) k) → bI (∀ f : Int, (k : Int) ≤ f → f < 2 * nW M0 → (may M0 md e f → rgt M0 md.2.2.1 b n (v f) f)) = bI (∀ f : Int, ((k + 1 : Nat) : Int) ≤ f → f < 2 * nW M0 → (may M0 md e f → rgt M0 md.2.2.1 b n (v f) f)) := fun h => by
      rw [← hs']
      exact bI_cg ⟨fun x => ((all_s k1).mp x).2, fun x => (all_s k1).mpr ⟨h, x⟩⟩
    have no : ¬ (may M0 md e k → rgt M0 md.2.2.1 b n (v k) k) → bI (∀ f : Int, (k : Int) ≤ f → f < 2 * nW M0 → (may M0 md e f → rgt M0 md.2.2.1 b n (v f) f)) = 0 := fun h => bI_f (fun x => h ((all_s k1).mp x).1)
    have hpr := prc_r h2 (w := (k : Int) / 2) (by omega) (by omega) u0 u1
    have mp := m_priceOf hF hg hA h2 (w := (k : Int) / 2) (by omega) (by omega) u0 u1
    have htd := tdr_r h2 h4 (f := (k : Int)) b0 b1
    by_cases hm : may M0 md e k
    case neg =>
      rw [bI_f hm] at mt
      rw [yes (fun x => absurd x hm)]
      refine s_Model_isRight_21 hF hg ?_
      simp (config := { maxSteps := 1000000 }) (disch := (first | omega | decide | assumption)) only [ltm_s, ok_n, rd_i, rd_j, fd_i, fd_j, wr_i, wr_j, fw_i, fw_j, ci_s, cj_s, cv_s, dv_n, dw_n, rt_1, rt_b, rt_20, rt_21, okb_0, okb_1, okb_b, nar_0, nar_1, nar_b, i_0, i_1, j_0, j_1, i_lit, j_lit, i_n, iI_add, iI_sub, iI_mul, iI_neg, jI_add, jI_sub, jI_mul, jI_neg, sh_1, an_1, xo_1, di_p, dj_p, i_64A, i_64, j_32, lq_ge, lq_lt, lq_le, lq_gt, lq_eq, i_lt, i_le, i_eq, j_eq, iI_A, jI_J, iI_b, iI_v, jI_v, ↓reduceIte, ite_true, ite_false, Int.reduceEq, Int.reduceLT, Int.reduceLE, Int.reduceAdd, Int.reduceSub, Int.reduceMul, Int.reduceNeg, not_true_eq_false, not_false_eq_true, e4, q, mt, hs', i1]
    rw [bI_t hm] at mt
    by_cases qg : (k : Int) / 2 = A M0 228 b
    · have td := m_toDoor hF hg hA h2 h4 b0 b1 (f := k) (by omega) (by omega) qg
      by_cases qn : n = -1
      · rw [no (fun x => ((x hm).1 qn).1 qg)]
        refine s_Model_isRight_21 hF hg ?_
        simp (config := { maxSteps := 1000000 }) (disch := (first | omega | decide | assumption)) only [ltm_s, ok_n, rd_i, rd_j, fd_i, fd_j, wr_i, wr_j, fw_i, fw_j, ci_s, cj_s, cv_s, dv_n, dw_n, rt_1, rt_b, rt_20, rt_21, okb_0, okb_1, okb_b, nar_0, nar_1, nar_b, i_0, i_1, j_0, j_1, i_lit, j_lit, i_n, iI_add, iI_sub, iI_mul, iI_neg, jI_add, jI_sub, jI_mul, jI_neg, sh_1, an_1, xo_1, di_p, dj_p, i_64A, i_64, j_32, lq_ge, lq_lt, lq_le, lq_gt, lq_eq, i_lt, i_le, i_eq, j_eq, iI_A, jI_J, iI_b, iI_v, jI_v, ↓reduceIte, ite_true, ite_false, Int.reduceEq, Int.reduceLT, Int.reduceLE, Int.reduceAdd, Int.reduceSub, Int.reduceMul, Int.reduceNeg, not_true_eq_false, not_false_eq_true, e4, q, mt, e228, eq_true qg, qn]
      · by_cases qt : tdr M0 b k < n
        · rw [no (fun x => by have := (x hm).2.1 qg; omega)]
          refine s_Model_isRight_21 hF hg ?_
          simp (config := { maxSteps := 1000000 }) (disch := (first | omega | decide | assumption)) only [ltm_s, ok_n, rd_i, rd_j, fd_i, fd_j, wr_i, wr_j, fw_i, fw_j, ci_s, cj_s, cv_s, dv_n, dw_n, rt_1, rt_b, rt_20, rt_21, okb_0, okb_1, okb_b, nar_0, nar_1, nar_b, i_0, i_1, j_0, j_1, i_lit, j_lit, i_n, iI_add, iI_sub, iI_mul, iI_neg, jI_add, jI_sub, jI_mul, jI_neg, sh_1, an_1, xo_1, di_p, dj_p, i_64A, i_64, j_32, lq_ge, lq_lt, lq_le, lq_gt, lq_eq, i_lt, i_le, i_eq, j_eq, iI_A, jI_J, iI_b, iI_v, jI_v, ↓reduceIte, ite_true, ite_false, Int.reduceEq, Int.reduceLT, Int.reduceLE, Int.reduceAdd, Int.reduceSub, Int.reduceMul, Int.reduceNeg, not_true_eq_false, not_false_eq_true, e4, q, mt, e228, eq_true qg, qn, td, qt]
        · by_cases qm : v k < 0
          · rw [yes (fun _ => ⟨fun x => absurd x qn, fun _ => by omega, fun x => by omega⟩)]
            refine s_Model_isRight_21 hF hg ?_
            simp (config := { maxSteps := 1000000 }) (disch := (first | omega | decide | assumption)) only [ltm_s, ok_n, rd_i, rd_j, fd_i, fd_j, wr_i, wr_j, fw_i, fw_j, ci_s, cj_s, cv_s, dv_n, dw_n, rt_1, rt_b, rt_20, rt_21, okb_0, okb_1, okb_b, nar_0, nar_1, nar_b, i_0, i_1, j_0, j_1, i_lit, j_lit, i_n, iI_add, iI_sub, iI_mul, iI_neg, jI_add, jI_sub, jI_mul, jI_neg, sh_1, an_1, xo_1, di_p, dj_p, i_64A, i_64, j_32, lq_ge, lq_lt, lq_le, lq_gt, lq_eq, i_lt, i_le, i_eq, j_eq, iI_A, jI_J, iI_b, iI_v, jI_v, ↓reduceIte, ite_true, ite_false, Int.reduceEq, Int.reduceLT, Int.reduceLE, Int.reduceAdd, Int.reduceSub, Int.reduceMul, Int.reduceNeg, not_true_eq_false, not_false_eq_true, e4, q, mt, e228, eq_true qg, qn, td, qt, ev, qm, hs', i1]
          · by_cases qp : n ≤ prc M0 ((k : Int) / 2) md.2.2.1 + v k
            · rw [yes (fun _ => ⟨fun x => absurd x qn, fun _ => by omega, fun _ => qp⟩)]
              refine s_Model_isRight_21 hF hg ?_
              simp (config := { maxSteps := 1000000 }) (disch := (first | omega | decide | assumption)) only [ltm_s, ok_n, rd_i, rd_j, fd_i, fd_j, wr_i, wr_j, fw_i, fw_j, ci_s, cj_s, cv_s, dv_n, dw_n, rt_1, rt_b, rt_20, rt_21, okb_0, okb_1, okb_b, nar_0, nar_1, nar_b, i_0, i_1, j_0, j_1, i_lit, j_lit, i_n, iI_add, iI_sub, iI_mul, iI_neg, jI_add, jI_sub, jI_mul, jI_neg, sh_1, an_1, xo_1, di_p, dj_p, i_64A, i_64, j_32, lq_ge, lq_lt, lq_le, lq_gt, lq_eq, i_lt, i_le, i_eq, j_eq, iI_A, jI_J, iI_b, iI_v, jI_v, ↓reduceIte, ite_true, ite_false, Int.reduceEq, Int.reduceLT, Int.reduceLE, Int.reduceAdd, Int.reduceSub, Int.reduceMul, Int.reduceNeg, not_true_eq_false, not_false_eq_true, e4, q, mt, e228, eq_true qg, qn, td, qt, ev, qm, s58, mp, qp, hs', i1]
            · rw [no (fun x => qp ((x hm).2.2 (by omega)))]
              refine s_Model_isRight_21 hF hg ?_
              simp (config := { maxSteps := 1000000 }) (disch := (first | omega | decide | assumption)) only [ltm_s, ok_n, rd_i, rd_j, fd_i, fd_j, wr_i, wr_j, fw_i, fw_j, ci_s, cj_s, cv_s, dv_n, dw_n, rt_1, rt_b, rt_20, rt_21, okb_0, okb_1, okb_b, nar_0, nar_1, nar_b, i_0, i_1, j_0, j_1, i_lit, j_lit, i_n, iI_add, iI_sub, iI_mul, iI_neg, jI_add, jI_sub, jI_mul, jI_neg, sh_1, an_1, xo_1, di_p, dj_p, i_64A, i_64, j_32, lq_ge, lq_lt, lq_le, lq_gt, lq_eq, i_lt, i_le, i_eq, j_eq, iI_A, jI_J, iI_b, iI_v, jI_v, ↓reduceIte, ite_true, ite_false, Int.reduceEq, Int.reduceLT, Int.reduceLE, Int.reduceAdd, Int.reduceSub, Int.reduceMul, Int.reduceNeg, not_true_eq_false, not_false_eq_true, e4, q, mt, e228, eq_true qg, qn, td, qt, ev, qm, s58, mp, qp]
    · by_cases qn : n = -1
      · by_cases qm : v k < 0
        · rw [yes (fun _ => ⟨fun _ => ⟨qg, qm⟩, fun x => absurd x qg, fun x => by omega⟩)]
          refine s_Model_isRight_21 hF hg ?_
          subst qn
          simp (config := { maxSteps := 1000000 }) (disch := (first | omega | decide | assumption)) only [ltm_s, ok_n, rd_i, rd_j, fd_i, fd_j, wr_i, wr_j, fw_i, fw_j, ci_s, cj_s, cv_s, dv_n, dw_n, rt_1, rt_b, rt_20, rt_21, okb_0, okb_1, okb_b, nar_0, nar_1, nar_b, i_0, i_1, j_0, j_1, i_lit, j_lit, i_n, iI_add, iI_sub, iI_mul, iI_neg, jI_add, jI_sub, jI_mul, jI_neg, sh_1, an_1, xo_1, di_p, dj_p, i_64A, i_64, j_32, lq_ge, lq_lt, lq_le, lq_gt, lq_eq, i_lt, i_le, i_eq, j_eq, iI_A, jI_J, iI_b, iI_v, jI_v, ↓reduceIte, ite_true, ite_false, Int.reduceEq, Int.reduceLT, Int.reduceLE, Int.reduceAdd, Int.reduceSub, Int.reduceMul, Int.reduceNeg, not_true_eq_false, not_false_eq_true, e4, q, mt, e228, qg, ev, qm, hs', i1]
        · rw [no (fun x => qm ((x hm).1 qn).2)]
          refine s_Model_isRight_21 hF hg ?_
          subst qn
          simp (config := { maxSteps := 1000000 }) (disch := (first | omega | decide | assumption)) only [ltm_s, ok_n, rd_i, rd_j, fd_i, fd_j, wr_i, wr_j, fw_i, fw_j, ci_s, cj_s, cv_s, dv_n, dw_n, rt_1, rt_b, rt_20, rt_21, okb_0, okb_1, okb_b, nar_0, nar_1, nar_b, i_0, i_1, j_0, j_1, i_lit, j_lit, i_n, iI_add, iI_sub, iI_mul, iI_neg, jI_add, jI_sub, jI_mul, jI_neg, sh_1, an_1, xo_1, di_p, dj_p, i_64A, i_64, j_32, lq_ge, lq_lt, lq_le, lq_gt, lq_eq, i_lt, i_le, i_eq, j_eq, iI_A, jI_J, iI_b, iI_v, jI_v, ↓reduceIte, ite_true, ite_false, Int.reduceEq, Int.reduceLT, Int.reduceLE, Int.reduceAdd, Int.reduceSub, Int.reduceMul, Int.reduceNeg, not_true_eq_false, not_false_eq_true, e4, q, mt, e228, qg, ev, qm]
      · by_cases qm : v k < 0
        · rw [yes (fun _ => ⟨fun x => absurd x qn, fun x => absurd x qg, fun x => by omega⟩)]
          refine s_Model_isRight_21 hF hg ?_
          simp (config := { maxSteps := 1000000 }) (disch := (first | omega | decide | assumption)) only [ltm_s, ok_n, rd_i, rd_j, fd_i, fd_j, wr_i, wr_j, fw_i, fw_j, ci_s, cj_s, cv_s, dv_n, dw_n, rt_1, rt_b, rt_20, rt_21, okb_0, okb_1, okb_b, nar_0, nar_1, nar_b, i_0, i_1, j_0, j_1, i_lit, j_lit, i_n, iI_add, iI_sub, iI_mul, iI_neg, jI_add, jI_sub, jI_mul, jI_neg, sh_1, an_1, xo_1, di_p, dj_p, i_64A, i_64, j_32, lq_ge, lq_lt, lq_le, lq_gt, lq_eq, i_lt, i_le, i_eq, j_eq, iI_A, jI_J, iI_b, iI_v, jI_v, ↓reduceIte, ite_true, ite_false, Int.reduceEq, Int.reduceLT, Int.reduceLE, Int.reduceAdd, Int.reduceSub, Int.reduceMul, Int.reduceNeg, not_true_eq_false, not_false_eq_true, e4, q, mt, e228, qg, qn, ev, qm, hs', i1]
        · by_cases qp : n ≤ prc M0 ((k : Int) / 2) md.2.2.1 + v k
          · rw [yes (fun _ => ⟨fun x => absurd x qn, fun x => absurd x qg, fun _ => qp⟩)]
            refine s_Model_isRight_21 hF hg ?_
            simp (config := { maxSteps := 1000000 }) (disch := (first | omega | decide | assumption)) only [ltm_s, ok_n, rd_i, rd_j, fd_i, fd_j, wr_i, wr_j, fw_i, fw_j, ci_s, cj_s, cv_s, dv_n, dw_n, rt_1, rt_b, rt_20, rt_21, okb_0, okb_1, okb_b, nar_0, nar_1, nar_b, i_0, i_1, j_0, j_1, i_lit, j_lit, i_n, iI_add, iI_sub, iI_mul, iI_neg, jI_add, jI_sub, jI_mul, jI_neg, sh_1, an_1, xo_1, di_p, dj_p, i_64A, i_64, j_32, lq_ge, lq_lt, lq_le, lq_gt, lq_eq, i_lt, i_le, i_eq, j_eq, iI_A, jI_J, iI_b, iI_v, jI_v, ↓reduceIte, ite_true, ite_false, Int.reduceEq, Int.reduceLT, Int.reduceLE, Int.reduceAdd, Int.reduceSub, Int.reduceMul, Int.reduceNeg, not_true_eq_false, not_false_eq_true, e4, q, mt, e228, qg, qn, ev, qm, s58, mp, qp, hs', i1]
          · rw [no (fun x => qp ((x hm).2.2 (by omega)))]
            refine s_Model_isRight_21 hF hg ?_
            simp (config := { maxSteps := 1000000 }) (disch := (first | omega | decide | assumption)) only [ltm_s, ok_n, rd_i, rd_j, fd_i, fd_j, wr_i, wr_j, fw_i, fw_j, ci_s, cj_s, cv_s, dv_n, dw_n, rt_1, rt_b, rt_20, rt_21, okb_0, okb_1, okb_b, nar_0, nar_1, nar_b, i_0, i_1, j_0, j_1, i_lit, j_lit, i_n, iI_add, iI_sub, iI_mul, iI_neg, jI_add, jI_sub, jI_mul, jI_neg, sh_1, an_1, xo_1, di_p, dj_p, i_64A, i_64, j_32, lq_ge, lq_lt, lq_le, lq_gt, lq_eq, i_lt, i_le, i_eq, j_eq, iI_A, jI_J, iI_b, iI_v, jI_v, ↓reduceIte, ite_true, ite_false, Int.reduceEq, Int.reduceLT, Int.reduceLE, Int.reduceAdd, Int.reduceSub, Int.reduceMul, Int.reduceNeg, not_true_eq_false, not_false_eq_true, e4, q, mt, e228, qg, qn, ev, qm, s58, mp, qp]
theorem c_right_l (hF : F = am_F T0 g) (hg : GG g) (hA : Ag M0 M) (h1 : I1 M0) (h2 : I2 M0) (h3 : I3 M0) (h4 : I4 M0) {md : Int × Int × Int × Int} (u0 : 0 ≤ md.2.2.1) (u1 : md.2.2.1 < 24) (hs : fset M0 md M) {a : Nat} (ha : gK g a = (1, 100)) {b e n : Int} {v : Int → Int} (b0 : 0 ≤ b) (b1 : b < nD M0) (e0 : 0 ≤ e) (e1 : e < 2 * nW M0) (n0 : -1 ≤ n) (n1 : n < 2147483648) (hv : ∀ f : Int, 0 ≤ f → f < 2 * nW M0 → A M a f = v f) (hve : v e = n) : ∀ mm k : Nat, (k : Int) + mm = A M0 17 (en M0 e) → F 94 13 [.ref 32, .int (iI e), .ref a, .int (iI b), .int (iI (en M0 e)), .int (iI k)] [] M = some (some (.int (iI (bI (∀ i : Int, (k : Int) ≤ i → i < A M0 17 (en M0 e) → (may M0 md e (A M0 16 (en M0 e * 40 + i)) → rgt M0 md.2.2.1 b n (v (A M0 16 (en M0 e * 40 + i))) (A M0 16 (en M0 e * 40 + i))))))), M) := by
  have hn := h2.1
  have hd := h4.1
  have hj := en_r h2 e0 e1
  have hJ := h1.1
  obtain ⟨hc, -, c3, c4, -⟩ := h3 (en M0 e) (by omega) (by omega)
  have e17 : A M 17 (en M0 e) = A M0 17 (en M0 e) := agA hA rfl
  have e11 : A M 11 b = A M0 228 b := (agA hA rfl).trans (r11 h4 b0 b1)
  have ene := hv e e0 e1
  rw [hve] at ene
  intro mm
  induction mm with
  | zero =>
    intro k hk
    have q : A M0 17 (en M0 e) ≤ (k : Int) := by omega
    rw [bI_t (fun f f0 f1 => by omega)]
    refine s_Finder_isRightAt_13 hF hg ha ?_
    simp (config := { maxSteps := 1000000 }) (disch := (first | omega | decide | assumption)) only [ltm_s, ok_n, rd_i, rd_j, fd_i, fd_j, wr_i, wr_j, fw_i, fw_j, ci_s, cj_s, cv_s, dv_n, dw_n, rt_1, rt_b, rt_20, rt_21, okb_0, okb_1, okb_b, nar_0, nar_1, nar_b, i_0, i_1, j_0, j_1, i_lit, j_lit, i_n, iI_add, iI_sub, iI_mul, iI_neg, jI_add, jI_sub, jI_mul, jI_neg, sh_1, an_1, xo_1, di_p, dj_p, i_64A, i_64, j_32, lq_ge, lq_lt, lq_le, lq_gt, lq_eq, i_lt, i_le, i_eq, j_eq, iI_A, jI_J, iI_b, iI_v, jI_v, ↓reduceIte, ite_true, ite_false, Int.reduceEq, Int.reduceLT, Int.reduceLE, Int.reduceAdd, Int.reduceSub, Int.reduceMul, Int.reduceNeg, not_true_eq_false, not_false_eq_true, e17, q]
  | succ mm ih =>
    intro k hk
    have q : ¬ A M0 17 (en M0 e) ≤ (k : Int) := by omega
    have hs' : (k : Int) + 1 = ((k + 1 : Nat) : Int) := by omega
    have i1 := ih (k + 1) (by omega)
    have k1 : (k : Int) < A M0 17 (en M0 e) := by omega
    obtain ⟨⟨g0, g1⟩, gb⟩ := c3 k (by omega) k1
    have ol := c_outLeg hF hg hA (j := en M0 e) (k := k) (by omega) (by omega) (by omega) (by omega)
    have mt := c_mayTurn (M := M) hF hg h2 hs e0 e1 g0 g1 gb
    have ev := hv _ g0 g1
    have yes : (may M0 md e (A M0 16 (en M0 e * 40 + k)) → rgt M0 md.2.2.1 b n (v (A M0 16 (en M0 e * 40 + k))) (A M0 16 (en M0 e * 40 + k))) → bI (∀ i : Int, (k : Int) ≤ i → i < A M0 17 (en M0 e) → (may M0 md e (A M0 16 (en M0 e * 40 + i)) → rgt M0 md.2.2.1 b n (v (A M0 16 (en M0 e * 40 + i))) (A M0 16 (en M0 e * 40 + i)))) = bI (∀ i : Int, ((k + 1 : Nat) : Int) ≤ i → i < A M0 17 (en M0 e) → (may M0 md e (A M0 16 (en M0 e * 40 + i)) → rgt M0 md.2.2.1 b n (v (A M0 16 (en M0 e * 40 + i))) (A M0 16 (en M0 e * 40 + i)))) := fun h => by
      rw [← hs']
      exact bI_cg ⟨fun x => ((all_s k1).mp x).2, fun x => (all_s k1).mpr ⟨h, x⟩⟩
    have no : ¬ (may M0 md e (A M0 16 (en M0 e * 40 + k)) → rgt M0 md.2.2.1 b n (v (A M0 16 (en M0 e * 40 + k))) (A M0 16 (en M0 e * 40 + k))) → bI (∀ i : Int, (k : Int) ≤ i → i < A M0 17 (en M0 e) → (may M0 md e (A M0 16 (en M0 e * 40 + i)) → rgt M0 md.2.2.1 b n (v (A M0 16 (en M0 e * 40 + i))) (A M0 16 (en M0 e * 40 + i)))) = 0 := fun h => bI_f (fun x => h ((all_s k1).mp x).1)
    generalize hG : A M0 16 (en M0 e * 40 + (k : Int)) = G at *
    have vr : -2147483648 ≤ v G ∧ v G < 2147483648 := by
      rw [← ev]; exact ⟨A_lo _ _ _, A_hi _ _ _⟩
    have hpr := prc_r h2 (w := G / 2) (by omega) (by omega) u0 u1
    have e34 := hs.2.2.1 (G / 2) (by omega) (by omega)
    have htd := tdr_r h2 h4 (f := G) b0 b1
    by_cases hm : may M0 md e G
    case neg =>
      rw [bI_f hm] at mt
      rw [yes (fun x => absurd x hm)]
      refine s_Finder_isRightAt_13 hF hg ha ?_
      simp (config := { maxSteps := 1000000 }) (disch := (first | omega | decide | assumption)) only [ltm_s, ok_n, rd_i, rd_j, fd_i, fd_j, wr_i, wr_j, fw_i, fw_j, ci_s, cj_s, cv_s, dv_n, dw_n, rt_1, rt_b, rt_20, rt_21, okb_0, okb_1, okb_b, nar_0, nar_1, nar_b, i_0, i_1, j_0, j_1, i_lit, j_lit, i_n, iI_add, iI_sub, iI_mul, iI_neg, jI_add, jI_sub, jI_mul, jI_neg, sh_1, an_1, xo_1, di_p, dj_p, i_64A, i_64, j_32, lq_ge, lq_lt, lq_le, lq_gt, lq_eq, i_lt, i_le, i_eq, j_eq, iI_A, jI_J, iI_b, iI_v, jI_v, ↓reduceIte, ite_true, ite_false, Int.reduceEq, Int.reduceLT, Int.reduceLE, Int.reduceAdd, Int.reduceSub, Int.reduceMul, Int.reduceNeg, not_true_eq_false, not_false_eq_true, e17, q, ol, mt, hs', i1]
    rw [bI_t hm] at mt
    by_cases qg : G / 2 = A M0 228 b
    · have td := c_feetFromStart hF hg hA h2 h4 (e := G) (d := b) g0 g1 b0 b1 qg
      by_cases qn : n = -1
      · rw [no (fun x => ((x hm).1 qn).1 qg)]
        refine s_Finder_isRightAt_13 hF hg ha ?_
        subst qn
        by_cases qm : v G < 0
        · simp (config := { maxSteps := 1000000 }) (disch := (first | omega | decide | assumption)) only [ltm_s, ok_n, rd_i, rd_j, fd_i, fd_j, wr_i, wr_j, fw_i, fw_j, ci_s, cj_s, cv_s, dv_n, dw_n, rt_1, rt_b, rt_20, rt_21, okb_0, okb_1, okb_b, nar_0, nar_1, nar_b, i_0, i_1, j_0, j_1, i_lit, j_lit, i_n, iI_add, iI_sub, iI_mul, iI_neg, jI_add, jI_sub, jI_mul, jI_neg, sh_1, an_1, xo_1, di_p, dj_p, i_64A, i_64, j_32, lq_ge, lq_lt, lq_le, lq_gt, lq_eq, i_lt, i_le, i_eq, j_eq, iI_A, jI_J, iI_b, iI_v, jI_v, ↓reduceIte, ite_true, ite_false, Int.reduceEq, Int.reduceLT, Int.reduceLE, Int.reduceAdd, Int.reduceSub, Int.reduceMul, Int.reduceNeg, not_true_eq_false, not_false_eq_true, e17, q, ol, mt, e11, eq_true qg, ev, qm, ene]
        · simp (config := { maxSteps := 1000000 }) (disch := (first | omega | decide | assumption)) only [ltm_s, ok_n, rd_i, rd_j, fd_i, fd_j, wr_i, wr_j, fw_i, fw_j, ci_s, cj_s, cv_s, dv_n, dw_n, rt_1, rt_b, rt_20, rt_21, okb_0, okb_1, okb_b, nar_0, nar_1, nar_b, i_0, i_1, j_0, j_1, i_lit, j_lit, i_n, iI_add, iI_sub, iI_mul, iI_neg, jI_add, jI_sub, jI_mul, jI_neg, sh_1, an_1, xo_1, di_p, dj_p, i_64A, i_64, j_32, lq_ge, lq_lt, lq_le, lq_gt, lq_eq, i_lt, i_le, i_eq, j_eq, iI_A, jI_J, iI_b, iI_v, jI_v, ↓reduceIte, ite_true, ite_false, Int.reduceEq, Int.reduceLT, Int.reduceLE, Int.reduceAdd, Int.reduceSub, Int.reduceMul, Int.reduceNeg, not_true_eq_false, not_false_eq_true, e17, q, ol, mt, e11, eq_true qg, ev, qm, ene]
      · have qn0 : 0 ≤ n := by omega
        by_cases qt : n ≤ tdr M0 b G
        · by_cases qm : v G < 0
          · rw [yes (fun _ => ⟨fun x => absurd x qn, fun _ => by omega, fun x => by omega⟩)]
            refine s_Finder_isRightAt_13 hF hg ha ?_
            simp (config := { maxSteps := 1000000 }) (disch := (first | omega | decide | assumption)) only [ltm_s, ok_n, rd_i, rd_j, fd_i, fd_j, wr_i, wr_j, fw_i, fw_j, ci_s, cj_s, cv_s, dv_n, dw_n, rt_1, rt_b, rt_20, rt_21, okb_0, okb_1, okb_b, nar_0, nar_1, nar_b, i_0, i_1, j_0, j_1, i_lit, j_lit, i_n, iI_add, iI_sub, iI_mul, iI_neg, jI_add, jI_sub, jI_mul, jI_neg, sh_1, an_1, xo_1, di_p, dj_p, i_64A, i_64, j_32, lq_ge, lq_lt, lq_le, lq_gt, lq_eq, i_lt, i_le, i_eq, j_eq, iI_A, jI_J, iI_b, iI_v, jI_v, ↓reduceIte, ite_true, ite_false, Int.reduceEq, Int.reduceLT, Int.reduceLE, Int.reduceAdd, Int.reduceSub, Int.reduceMul, Int.reduceNeg, not_true_eq_false, not_false_eq_true, e17, q, ol, mt, e11, eq_true qg, ev, qm, ene, qn0]
            refine s_Finder_isRightAt_109 hF hg ha ?_
            simp (config := { maxSteps := 1000000 }) (disch := (first | omega | decide | assumption)) only [ltm_s, ok_n, rd_i, rd_j, fd_i, fd_j, wr_i, wr_j, fw_i, fw_j, ci_s, cj_s, cv_s, dv_n, dw_n, rt_1, rt_b, rt_20, rt_21, okb_0, okb_1, okb_b, nar_0, nar_1, nar_b, i_0, i_1, j_0, j_1, i_lit, j_lit, i_n, iI_add, iI_sub, iI_mul, iI_neg, jI_add, jI_sub, jI_mul, jI_neg, sh_1, an_1, xo_1, di_p, dj_p, i_64A, i_64, j_32, lq_ge, lq_lt, lq_le, lq_gt, lq_eq, i_lt, i_le, i_eq, j_eq, iI_A, jI_J, iI_b, iI_v, jI_v, ↓reduceIte, ite_true, ite_false, Int.reduceEq, Int.reduceLT, Int.reduceLE, Int.reduceAdd, Int.reduceSub, Int.reduceMul, Int.reduceNeg, not_true_eq_false, not_false_eq_true, td, ene, qt, hs', i1]
          · by_cases qp : n ≤ prc M0 (G / 2) md.2.2.1 + v G
            · rw [yes (fun _ => ⟨fun x => absurd x qn, fun _ => by omega, fun _ => qp⟩)]
              refine s_Finder_isRightAt_13 hF hg ha ?_
              simp (config := { maxSteps := 1000000 }) (disch := (first | omega | decide | assumption)) only [ltm_s, ok_n, rd_i, rd_j, fd_i, fd_j, wr_i, wr_j, fw_i, fw_j, ci_s, cj_s, cv_s, dv_n, dw_n, rt_1, rt_b, rt_20, rt_21, okb_0, okb_1, okb_b, nar_0, nar_1, nar_b, i_0, i_1, j_0, j_1, i_lit, j_lit, i_n, iI_add, iI_sub, iI_mul, iI_neg, jI_add, jI_sub, jI_mul, jI_neg, sh_1, an_1, xo_1, di_p, dj_p, i_64A, i_64, j_32, lq_ge, lq_lt, lq_le, lq_gt, lq_eq, i_lt, i_le, i_eq, j_eq, iI_A, jI_J, iI_b, iI_v, jI_v, ↓reduceIte, ite_true, ite_false, Int.reduceEq, Int.reduceLT, Int.reduceLE, Int.reduceAdd, Int.reduceSub, Int.reduceMul, Int.reduceNeg, not_true_eq_false, not_false_eq_true, e17, q, ol, mt, e11, eq_true qg, ev, qm, ene, qn0]
              refine s_Finder_isRightAt_109 hF hg ha ?_
              simp (config := { maxSteps := 1000000 }) (disch := (first | omega | decide | assumption)) only [ltm_s, ok_n, rd_i, rd_j, fd_i, fd_j, wr_i, wr_j, fw_i, fw_j, ci_s, cj_s, cv_s, dv_n, dw_n, rt_1, rt_b, rt_20, rt_21, okb_0, okb_1, okb_b, nar_0, nar_1, nar_b, i_0, i_1, j_0, j_1, i_lit, j_lit, i_n, iI_add, iI_sub, iI_mul, iI_neg, jI_add, jI_sub, jI_mul, jI_neg, sh_1, an_1, xo_1, di_p, dj_p, i_64A, i_64, j_32, lq_ge, lq_lt, lq_le, lq_gt, lq_eq, i_lt, i_le, i_eq, j_eq, iI_A, jI_J, iI_b, iI_v, jI_v, ↓reduceIte, ite_true, ite_false, Int.reduceEq, Int.reduceLT, Int.reduceLE, Int.reduceAdd, Int.reduceSub, Int.reduceMul, Int.reduceNeg, not_true_eq_false, not_false_eq_true, td, ene, qt, e34, ev, qp, hs', i1]
            · rw [no (fun x => qp ((x hm).2.2 (by omega)))]
              refine s_Finder_isRightAt_13 hF hg ha ?_
              simp (config := { maxSteps := 1000000 }) (disch := (first | omega | decide | assumption)) only [ltm_s, ok_n, rd_i, rd_j, fd_i, fd_j, wr_i, wr_j, fw_i, fw_j, ci_s, cj_s, cv_s, dv_n, dw_n, rt_1, rt_b, rt_20, rt_21, okb_0, okb_1, okb_b, nar_0, nar_1, nar_b, i_0, i_1, j_0, j_1, i_lit, j_lit, i_n, iI_add, iI_sub, iI_mul, iI_neg, jI_add, jI_sub, jI_mul, jI_neg, sh_1, an_1, xo_1, di_p, dj_p, i_64A, i_64, j_32, lq_ge, lq_lt, lq_le, lq_gt, lq_eq, i_lt, i_le, i_eq, j_eq, iI_A, jI_J, iI_b, iI_v, jI_v, ↓reduceIte, ite_true, ite_false, Int.reduceEq, Int.reduceLT, Int.reduceLE, Int.reduceAdd, Int.reduceSub, Int.reduceMul, Int.reduceNeg, not_true_eq_false, not_false_eq_true, e17, q, ol, mt, e11, eq_true qg, ev, qm, ene, qn0]
              refine s_Finder_isRightAt_109 hF hg ha ?_
              simp (config := { maxSteps := 1000000 }) (disch := (first | omega | decide | assumption)) only [ltm_s, ok_n, rd_i, rd_j, fd_i, fd_j, wr_i, wr_j, fw_i, fw_j, ci_s, cj_s, cv_s, dv_n, dw_n, rt_1, rt_b, rt_20, rt_21, okb_0, okb_1, okb_b, nar_0, nar_1, nar_b, i_0, i_1, j_0, j_1, i_lit, j_lit, i_n, iI_add, iI_sub, iI_mul, iI_neg, jI_add, jI_sub, jI_mul, jI_neg, sh_1, an_1, xo_1, di_p, dj_p, i_64A, i_64, j_32, lq_ge, lq_lt, lq_le, lq_gt, lq_eq, i_lt, i_le, i_eq, j_eq, iI_A, jI_J, iI_b, iI_v, jI_v, ↓reduceIte, ite_true, ite_false, Int.reduceEq, Int.reduceLT, Int.reduceLE, Int.reduceAdd, Int.reduceSub, Int.reduceMul, Int.reduceNeg, not_true_eq_false, not_false_eq_true, td, ene, qt, e34, ev, qp]
        · rw [no (fun x => qt ((x hm).2.1 qg))]
          refine s_Finder_isRightAt_13 hF hg ha ?_
          by_cases qm : v G < 0
          · simp (config := { maxSteps := 1000000 }) (disch := (first | omega | decide | assumption)) only [ltm_s, ok_n, rd_i, rd_j, fd_i, fd_j, wr_i, wr_j, fw_i, fw_j, ci_s, cj_s, cv_s, dv_n, dw_n, rt_1, rt_b, rt_20, rt_21, okb_0, okb_1, okb_b, nar_0, nar_1, nar_b, i_0, i_1, j_0, j_1, i_lit, j_lit, i_n, iI_add, iI_sub, iI_mul, iI_neg, jI_add, jI_sub, jI_mul, jI_neg, sh_1, an_1, xo_1, di_p, dj_p, i_64A, i_64, j_32, lq_ge, lq_lt, lq_le, lq_gt, lq_eq, i_lt, i_le, i_eq, j_eq, iI_A, jI_J, iI_b, iI_v, jI_v, ↓reduceIte, ite_true, ite_false, Int.reduceEq, Int.reduceLT, Int.reduceLE, Int.reduceAdd, Int.reduceSub, Int.reduceMul, Int.reduceNeg, not_true_eq_false, not_false_eq_true, e17, q, ol, mt, e11, eq_true qg, ev, qm, ene, qn0]
            refine s_Finder_isRightAt_109 hF hg ha ?_
            simp (config := { maxSteps := 1000000 }) (disch := (first | omega | decide | assumption)) only [ltm_s, ok_n, rd_i, rd_j, fd_i, fd_j, wr_i, wr_j, fw_i, fw_j, ci_s, cj_s, cv_s, dv_n, dw_n, rt_1, rt_b, rt_20, rt_21, okb_0, okb_1, okb_b, nar_0, nar_1, nar_b, i_0, i_1, j_0, j_1, i_lit, j_lit, i_n, iI_add, iI_sub, iI_mul, iI_neg, jI_add, jI_sub, jI_mul, jI_neg, sh_1, an_1, xo_1, di_p, dj_p, i_64A, i_64, j_32, lq_ge, lq_lt, lq_le, lq_gt, lq_eq, i_lt, i_le, i_eq, j_eq, iI_A, jI_J, iI_b, iI_v, jI_v, ↓reduceIte, ite_true, ite_false, Int.reduceEq, Int.reduceLT, Int.reduceLE, Int.reduceAdd, Int.reduceSub, Int.reduceMul, Int.reduceNeg, not_true_eq_false, not_false_eq_true, td, ene, qt]
          · simp (config := { maxSteps := 1000000 }) (disch := (first | omega | decide | assumption)) only [ltm_s, ok_n, rd_i, rd_j, fd_i, fd_j, wr_i, wr_j, fw_i, fw_j, ci_s, cj_s, cv_s, dv_n, dw_n, rt_1, rt_b, rt_20, rt_21, okb_0, okb_1, okb_b, nar_0, nar_1, nar_b, i_0, i_1, j_0, j_1, i_lit, j_lit, i_n, iI_add, iI_sub, iI_mul, iI_neg, jI_add, jI_sub, jI_mul, jI_neg, sh_1, an_1, xo_1, di_p, dj_p, i_64A, i_64, j_32, lq_ge, lq_lt, lq_le, lq_gt, lq_eq, i_lt, i_le, i_eq, j_eq, iI_A, jI_J, iI_b, iI_v, jI_v, ↓reduceIte, ite_true, ite_false, Int.reduceEq, Int.reduceLT, Int.reduceLE, Int.reduceAdd, Int.reduceSub, Int.reduceMul, Int.reduceNeg, not_true_eq_false, not_false_eq_true, e17, q, ol, mt, e11, eq_true qg, ev, qm, ene, qn0]
            refine s_Finder_isRightAt_109 hF hg ha ?_
            simp (config := { maxSteps := 1000000 }) (disch := (first | omega | decide | assumption)) only [ltm_s, ok_n, rd_i, rd_j, fd_i, fd_j, wr_i, wr_j, fw_i, fw_j, ci_s, cj_s, cv_s, dv_n, dw_n, rt_1, rt_b, rt_20, rt_21, okb_0, okb_1, okb_b, nar_0, nar_1, nar_b, i_0, i_1, j_0, j_1, i_lit, j_lit, i_n, iI_add, iI_sub, iI_mul, iI_neg, jI_add, jI_sub, jI_mul, jI_neg, sh_1, an_1, xo_1, di_p, dj_p, i_64A, i_64, j_32, lq_ge, lq_lt, lq_le, lq_gt, lq_eq, i_lt, i_le, i_eq, j_eq, iI_A, jI_J, iI_b, iI_v, jI_v, ↓reduceIte, ite_true, ite_false, Int.reduceEq, Int.reduceLT, Int.reduceLE, Int.reduceAdd, Int.reduceSub, Int.reduceMul, Int.reduceNeg, not_true_eq_false, not_false_eq_true, td, ene, qt]
    · by_cases qm : v G < 0
      · rw [yes (fun _ => ⟨fun _ => ⟨qg, qm⟩, fun x => absurd x qg, fun x => by omega⟩)]
        refine s_Finder_isRightAt_13 hF hg ha ?_
        by_cases qn0 : 0 ≤ n
        · simp (config := { maxSteps := 1000000 }) (disch := (first | omega | decide | assumption)) only [ltm_s, ok_n, rd_i, rd_j, fd_i, fd_j, wr_i, wr_j, fw_i, fw_j, ci_s, cj_s, cv_s, dv_n, dw_n, rt_1, rt_b, rt_20, rt_21, okb_0, okb_1, okb_b, nar_0, nar_1, nar_b, i_0, i_1, j_0, j_1, i_lit, j_lit, i_n, iI_add, iI_sub, iI_mul, iI_neg, jI_add, jI_sub, jI_mul, jI_neg, sh_1, an_1, xo_1, di_p, dj_p, i_64A, i_64, j_32, lq_ge, lq_lt, lq_le, lq_gt, lq_eq, i_lt, i_le, i_eq, j_eq, iI_A, jI_J, iI_b, iI_v, jI_v, ↓reduceIte, ite_true, ite_false, Int.reduceEq, Int.reduceLT, Int.reduceLE, Int.reduceAdd, Int.reduceSub, Int.reduceMul, Int.reduceNeg, not_true_eq_false, not_false_eq_true, e17, q, ol, mt, e11, qg, ev, qm, ene, qn0]
          refine s_Finder_isRightAt_109 hF hg ha ?_
          simp (config := { maxSteps := 1000000 }) (disch := (first | omega | decide | assumption)) only [ltm_s, ok_n, rd_i, rd_j, fd_i, fd_j, wr_i, wr_j, fw_i, fw_j, ci_s, cj_s, cv_s, dv_n, dw_n, rt_1, rt_b, rt_20, rt_21, okb_0, okb_1, okb_b, nar_0, nar_1, nar_b, i_0, i_1, j_0, j_1, i_lit, j_lit, i_n, iI_add, iI_sub, iI_mul, iI_neg, jI_add, jI_sub, jI_mul, jI_neg, sh_1, an_1, xo_1, di_p, dj_p, i_64A, i_64, j_32, lq_ge, lq_lt, lq_le, lq_gt, lq_eq, i_lt, i_le, i_eq, j_eq, iI_A, jI_J, iI_b, iI_v, jI_v, ↓reduceIte, ite_true, ite_false, Int.reduceEq, Int.reduceLT, Int.reduceLE, Int.reduceAdd, Int.reduceSub, Int.reduceMul, Int.reduceNeg, not_true_eq_false, not_false_eq_true, hs', i1]
        · simp (config := { maxSteps := 1000000 }) (disch := (first | omega | decide | assumption)) only [ltm_s, ok_n, rd_i, rd_j, fd_i, fd_j, wr_i, wr_j, fw_i, fw_j, ci_s, cj_s, cv_s, dv_n, dw_n, rt_1, rt_b, rt_20, rt_21, okb_0, okb_1, okb_b, nar_0, nar_1, nar_b, i_0, i_1, j_0, j_1, i_lit, j_lit, i_n, iI_add, iI_sub, iI_mul, iI_neg, jI_add, jI_sub, jI_mul, jI_neg, sh_1, an_1, xo_1, di_p, dj_p, i_64A, i_64, j_32, lq_ge, lq_lt, lq_le, lq_gt, lq_eq, i_lt, i_le, i_eq, j_eq, iI_A, jI_J, iI_b, iI_v, jI_v, ↓reduceIte, ite_true, ite_false, Int.reduceEq, Int.reduceLT, Int.reduceLE, Int.reduceAdd, Int.reduceSub, Int.reduceMul, Int.reduceNeg, not_true_eq_false, not_false_eq_true, e17, q, ol, mt, e11, qg, ev, qm, ene, qn0]
          refine s_Finder_isRightAt_109 hF hg ha ?_
          simp (config := { maxSteps := 1000000 }) (disch := (first | omega | decide | assumption)) only [ltm_s, ok_n, rd_i, rd_j, fd_i, fd_j, wr_i, wr_j, fw_i, fw_j, ci_s, cj_s, cv_s, dv_n, dw_n, rt_1, rt_b, rt_20, rt_21, okb_0, okb_1, okb_b, nar_0, nar_1, nar_b, i_0, i_1, j_0, j_1, i_lit, j_lit, i_n, iI_add, iI_sub, iI_mul, iI_neg, jI_add, jI_sub, jI_mul, jI_neg, sh_1, an_1, xo_1, di_p, dj_p, i_64A, i_64, j_32, lq_ge, lq_lt, lq_le, lq_gt, lq_eq, i_lt, i_le, i_eq, j_eq, iI_A, jI_J, iI_b, iI_v, jI_v, ↓reduceIte, ite_true, ite_false, Int.reduceEq, Int.reduceLT, Int.reduceLE, Int.reduceAdd, Int.reduceSub, Int.reduceMul, Int.reduceNeg, not_true_eq_false, not_false_eq_true, hs', i1]
      · by_cases qn0 : 0 ≤ n
        · by_cases qp : n ≤ prc M0 (G / 2) md.2.2.1 + v G
          · rw [yes (fun _ => ⟨fun x => by omega, fun x => absurd x qg, fun _ => qp⟩)]
            refine s_Finder_isRightAt_13 hF hg ha ?_
            simp (config := { maxSteps := 1000000 }) (disch := (first | omega | decide | assumption)) only [ltm_s, ok_n, rd_i, rd_j, fd_i, fd_j, wr_i, wr_j, fw_i, fw_j, ci_s, cj_s, cv_s, dv_n, dw_n, rt_1, rt_b, rt_20, rt_21, okb_0, okb_1, okb_b, nar_0, nar_1, nar_b, i_0, i_1, j_0, j_1, i_lit, j_lit, i_n, iI_add, iI_sub, iI_mul, iI_neg, jI_add, jI_sub, jI_mul, jI_neg, sh_1, an_1, xo_1, di_p, dj_p, i_64A, i_64, j_32, lq_ge, lq_lt, lq_le, lq_gt, lq_eq, i_lt, i_le, i_eq, j_eq, iI_A, jI_J, iI_b, iI_v, jI_v, ↓reduceIte, ite_true, ite_false, Int.reduceEq, Int.reduceLT, Int.reduceLE, Int.reduceAdd, Int.reduceSub, Int.reduceMul, Int.reduceNeg, not_true_eq_false, not_false_eq_true, e17, q, ol, mt, e11, qg, ev, qm, ene, qn0]
            refine s_Finder_isRightAt_109 hF hg ha ?_
            simp (config := { maxSteps := 1000000 }) (disch := (first | omega | decide | assumption)) only [ltm_s, ok_n, rd_i, rd_j, fd_i, fd_j, wr_i, wr_j, fw_i, fw_j, ci_s, cj_s, cv_s, dv_n, dw_n, rt_1, rt_b, rt_20, rt_21, okb_0, okb_1, okb_b, nar_0, nar_1, nar_b, i_0, i_1, j_0, j_1, i_lit, j_lit, i_n, iI_add, iI_sub, iI_mul, iI_neg, jI_add, jI_sub, jI_mul, jI_neg, sh_1, an_1, xo_1, di_p, dj_p, i_64A, i_64, j_32, lq_ge, lq_lt, lq_le, lq_gt, lq_eq, i_lt, i_le, i_eq, j_eq, iI_A, jI_J, iI_b, iI_v, jI_v, ↓reduceIte, ite_true, ite_false, Int.reduceEq, Int.reduceLT, Int.reduceLE, Int.reduceAdd, Int.reduceSub, Int.reduceMul, Int.reduceNeg, not_true_eq_false, not_false_eq_true, ene, e34, ev, qp, hs', i1]
          · rw [no (fun x => qp ((x hm).2.2 (by omega)))]
            refine s_Finder_isRightAt_13 hF hg ha ?_
            simp (config := { maxSteps := 1000000 }) (disch := (first | omega | decide | assumption)) only [ltm_s, ok_n, rd_i, rd_j, fd_i, fd_j, wr_i, wr_j, fw_i, fw_j, ci_s, cj_s, cv_s, dv_n, dw_n, rt_1, rt_b, rt_20, rt_21, okb_0, okb_1, okb_b, nar_0, nar_1, nar_b, i_0, i_1, j_0, j_1, i_lit, j_lit, i_n, iI_add, iI_sub, iI_mul, iI_neg, jI_add, jI_sub, jI_mul, jI_neg, sh_1, an_1, xo_1, di_p, dj_p, i_64A, i_64, j_32, lq_ge, lq_lt, lq_le, lq_gt, lq_eq, i_lt, i_le, i_eq, j_eq, iI_A, jI_J, iI_b, iI_v, jI_v, ↓reduceIte, ite_true, ite_false, Int.reduceEq, Int.reduceLT, Int.reduceLE, Int.reduceAdd, Int.reduceSub, Int.reduceMul, Int.reduceNeg, not_true_eq_false, not_false_eq_true, e17, q, ol, mt, e11, qg, ev, qm, ene, qn0]
            refine s_Finder_isRightAt_109 hF hg ha ?_
            simp (config := { maxSteps := 1000000 }) (disch := (first | omega | decide | assumption)) only [ltm_s, ok_n, rd_i, rd_j, fd_i, fd_j, wr_i, wr_j, fw_i, fw_j, ci_s, cj_s, cv_s, dv_n, dw_n, rt_1, rt_b, rt_20, rt_21, okb_0, okb_1, okb_b, nar_0, nar_1, nar_b, i_0, i_1, j_0, j_1, i_lit, j_lit, i_n, iI_add, iI_sub, iI_mul, iI_neg, jI_add, jI_sub, jI_mul, jI_neg, sh_1, an_1, xo_1, di_p, dj_p, i_64A, i_64, j_32, lq_ge, lq_lt, lq_le, lq_gt, lq_eq, i_lt, i_le, i_eq, j_eq, iI_A, jI_J, iI_b, iI_v, jI_v, ↓reduceIte, ite_true, ite_false, Int.reduceEq, Int.reduceLT, Int.reduceLE, Int.reduceAdd, Int.reduceSub, Int.reduceMul, Int.reduceNeg, not_true_eq_false, not_false_eq_true, ene, e34, ev, qp]
        · rw [no (fun x => qm ((x hm).1 (by omega)).2)]
          refine s_Finder_isRightAt_13 hF hg ha ?_
          simp (config := { maxSteps := 1000000 }) (disch := (first | omega | decide | assumption)) only [ltm_s, ok_n, rd_i, rd_j, fd_i, fd_j, wr_i, wr_j, fw_i, fw_j, ci_s, cj_s, cv_s, dv_n, dw_n, rt_1, rt_b, rt_20, rt_21, okb_0, okb_1, okb_b, nar_0, nar_1, nar_b, i_0, i_1, j_0, j_1, i_lit, j_lit, i_n, iI_add, iI_sub, iI_mul, iI_neg, jI_add, jI_sub, jI_mul, jI_neg, sh_1, an_1, xo_1, di_p, dj_p, i_64A, i_64, j_32, lq_ge, lq_lt, lq_le, lq_gt, lq_eq, i_lt, i_le, i_eq, j_eq, iI_A, jI_J, iI_b, iI_v, jI_v, ↓reduceIte, ite_true, ite_false, Int.reduceEq, Int.reduceLT, Int.reduceLE, Int.reduceAdd, Int.reduceSub, Int.reduceMul, Int.reduceNeg, not_true_eq_false, not_false_eq_true, e17, q, ol, mt, e11, qg, ev, qm, ene, qn0]
/-- right at a leg, its own number told -/
def rgA (M0 : am_M) (md : Int × Int × Int × Int) (b : Int) (v : Int → Int) (e : Int) : Prop := ∀ f : Int, 0 ≤ f → f < 2 * nW M0 → (may M0 md e f → rgt M0 md.2.2.1 b (v e) (v f) f)
theorem c_right (hF : F = am_F T0 g) (hg : GG g) (hA : Ag M0 M) (h1 : I1 M0) (h2 : I2 M0) (h3 : I3 M0) (h4 : I4 M0) {md : Int × Int × Int × Int} (u0 : 0 ≤ md.2.2.1) (u1 : md.2.2.1 < 24) (hs : fset M0 md M) {a : Nat} (ha : gK g a = (1, 100)) {b e : Int} {v : Int → Int} (b0 : 0 ≤ b) (b1 : b < nD M0) (e0 : 0 ≤ e) (e1 : e < 2 * nW M0) (n0 : -1 ≤ v e) (hv : ∀ f : Int, 0 ≤ f → f < 2 * nW M0 → A M a f = v f) : F 94 0 [.ref 32, .int (iI e), .ref a, .int (iI b)] [] M = some (some (.int (iI (bI (rgA M0 md b v e)))), M) := by
  have hj := en_r h2 e0 e1
  have hJ := h1.1
  have hn := h2.1
  obtain ⟨hc, -, c3, c4, c5⟩ := h3 (en M0 e) (by omega) (by omega)
  have n1 : v e < 2147483648 := by
    rw [← hv e e0 e1]; exact A_hi _ _ _
  have l := c_right_l hF hg hA h1 h2 h3 h4 u0 u1 hs ha b0 b1 e0 e1 n0 n1 hv rfl (A M0 17 (en M0 e)).toNat 0 (by omega)
  have eo := c_endOf hF hg hA h2 e0 e1
  have iff : (∀ i : Int, ((0 : Nat) : Int) ≤ i → i < A M0 17 (en M0 e) → (may M0 md e (A M0 16 (en M0 e * 40 + i)) → rgt M0 md.2.2.1 b (v e) (v (A M0 16 (en M0 e * 40 + i))) (A M0 16 (en M0 e * 40 + i)))) ↔ rgA M0 md b v e := by
    constructor
    · intro h f f0 f1 hm
      obtain ⟨i, i0, i1, ei⟩ := c5 f f0 f1 hm.1.1
      have := h i (by omega) i1
      rw [ei] at this
      exact this hm
    · intro h i i0 i1 hm
      have := (c3 i (by omega) i1).1
      exact h _ this.1 this.2 hm
  rw [bI_cg iff] at l
  refine s_Finder_isRightAt hF hg ha ?_
  simp (config := { maxSteps := 1000000 }) (disch := (first | omega | decide | assumption)) only [ltm_s, ok_n, rd_i, rd_j, fd_i, fd_j, wr_i, wr_j, fw_i, fw_j, ci_s, cj_s, cv_s, dv_n, dw_n, rt_1, rt_b, rt_20, rt_21, okb_0, okb_1, okb_b, nar_0, nar_1, nar_b, i_0, i_1, j_0, j_1, i_lit, j_lit, i_n, iI_add, iI_sub, iI_mul, iI_neg, jI_add, jI_sub, jI_mul, jI_neg, sh_1, an_1, xo_1, di_p, dj_p, i_64A, i_64, j_32, lq_ge, lq_lt, lq_le, lq_gt, lq_eq, i_lt, i_le, i_eq, j_eq, iI_A, jI_J, iI_b, iI_v, jI_v, ↓reduceIte, ite_true, ite_false, Int.reduceEq, Int.reduceLT, Int.reduceLE, Int.reduceAdd, Int.reduceSub, Int.reduceMul, Int.reduceNeg, not_true_eq_false, not_false_eq_true, eo]
  exact l
theorem m_right (hF : F = am_F T0 g) (hg : GG g) (hA : Ag M0 M) (h1 : I1 M0) (h2 : I2 M0) (h4 : I4 M0) (h6 : I6 M0) (h7 : I7 M0) (h8 : I8 M0) (h9 : I9 M0) {md : Int × Int × Int × Int} (hmd : mok M0 md) (hs : mset md M) {b e o : Int} {v : Int → Int} (b0 : 0 ≤ b) (b1 : b < nD M0) (e0 : 0 ≤ e) (e1 : e < 2 * nW M0) (o0 : 0 ≤ o) (o1 : o ≤ 300) (hv : ∀ f : Int, 0 ≤ f → f < 2 * nW M0 → A M 261 (o + f) = v f) : F 250 0 [.ref 219, .int (iI e), .int (iI b), .int (iI o)] [] M = some (some (.int (iI (bI (-1 ≤ v e ∧ rgA M0 md b v e)))), M) := by
  have hn := h2.1
  have ev := hv e e0 e1
  have vr : -2147483648 ≤ v e ∧ v e < 2147483648 := by
    rw [← ev]; exact ⟨A_lo _ _ _, A_hi _ _ _⟩
  refine s_Model_isRight hF hg ?_
  by_cases q : -1 ≤ v e
  · have l := m_right_l hF hg hA h1 h2 h4 h6 h7 h8 h9 hmd hs b0 b1 e0 e1 o0 o1 q vr.2 hv (2 * nW M0).toNat 0 (by omega)
    have iff : (∀ f : Int, ((0 : Nat) : Int) ≤ f → f < 2 * nW M0 → (may M0 md e f → rgt M0 md.2.2.1 b (v e) (v f) f)) ↔ (-1 ≤ v e ∧ rgA M0 md b v e) := ⟨fun h => ⟨q, fun f f0 f1 => h f (by omega) f1⟩, fun h f f0 f1 => h.2 f (by omega) f1⟩
    rw [bI_cg iff] at l
    obtain ⟨z, hz⟩ : ∃ z : Int, z = bI (-1 ≤ v e ∧ rgA M0 md b v e) := ⟨_, rfl⟩
    rw [← hz] at l ⊢
    simp (config := { maxSteps := 1000000 }) (disch := (first | omega | decide | assumption)) only [ltm_s, ok_n, rd_i, rd_j, fd_i, fd_j, wr_i, wr_j, fw_i, fw_j, ci_s, cj_s, cv_s, dv_n, dw_n, rt_1, rt_b, rt_20, rt_21, okb_0, okb_1, okb_b, nar_0, nar_1, nar_b, i_0, i_1, j_0, j_1, i_lit, j_lit, i_n, iI_add, iI_sub, iI_mul, iI_neg, jI_add, jI_sub, jI_mul, jI_neg, sh_1, an_1, xo_1, di_p, dj_p, i_64A, i_64, j_32, lq_ge, lq_lt, lq_le, lq_gt, lq_eq, i_lt, i_le, i_eq, j_eq, iI_A, jI_J, iI_b, iI_v, jI_v, ↓reduceIte, ite_true, ite_false, Int.reduceEq, Int.reduceLT, Int.reduceLE, Int.reduceAdd, Int.reduceSub, Int.reduceMul, Int.reduceNeg, not_true_eq_false, not_false_eq_true, ev, q]
    exact l
  · rw [bI_f (fun x => q x.1)]
    simp (config := { maxSteps := 1000000 }) (disch := (first | omega | decide | assumption)) only [ltm_s, ok_n, rd_i, rd_j, fd_i, fd_j, wr_i, wr_j, fw_i, fw_j, ci_s, cj_s, cv_s, dv_n, dw_n, rt_1, rt_b, rt_20, rt_21, okb_0, okb_1, okb_b, nar_0, nar_1, nar_b, i_0, i_1, j_0, j_1, i_lit, j_lit, i_n, iI_add, iI_sub, iI_mul, iI_neg, jI_add, jI_sub, jI_mul, jI_neg, sh_1, an_1, xo_1, di_p, dj_p, i_64A, i_64, j_32, lq_ge, lq_lt, lq_le, lq_gt, lq_eq, i_lt, i_le, i_eq, j_eq, iI_A, jI_J, iI_b, iI_v, jI_v, ↓reduceIte, ite_true, ite_false, Int.reduceEq, Int.reduceLT, Int.reduceLE, Int.reduceAdd, Int.reduceSub, Int.reduceMul, Int.reduceNeg, not_true_eq_false, not_false_eq_true, ev, q]
end Rg
