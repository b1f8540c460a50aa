/-! A ROUTE MEASURED -/
section Me
variable {M0 M M' : am_M} {g : am_G} {F : am_FT} {rt : Nat}
theorem Ke1.a (h : Ke [rt] M M') {a : Nat} {z : Int} (h1 : a ≠ rt) : A M' a z = A M a z := h.a (by simp only [List.mem_cons, List.not_mem_nil, or_false]; omega)
theorem c_measure_l (hF : F = am_F T0 g) (hg : GG g) (hr : rok g rt) (h1 : I1 M0) (h2 : I2 M0) (h4 : I4 M0) {md : Int × Int × Int × Int} {by_ a b K : Int} {C : Int → Int} (u0 : 0 ≤ md.2.2.1) (u1 : md.2.2.1 < 24) (a0 : 0 ≤ a) (a1 : a < nD M0) (b0 : 0 ≤ b) (b1 : b < nD M0) (hB : Bel_ M0 md by_ a b C) {e : Int} {m : Nat} (hP : Pth_ M0 md by_ a b C m e) (hm : (m : Int) + 2 ≤ 2 * nW M0) : ∀ (n s : Nat) (M : am_M) (t k : Int), s + n = m → Ag M0 M → (∀ j : Int, 0 ≤ j → j < nJ M0 → A M 37 j = strg M0 a b j) → (∀ w : Int, 0 ≤ w → w < nW M0 → A M 34 w = prc M0 w md.2.2.1) → (∀ j : Nat, j ≤ m + 1 → A M (rt + 1) j = pt_ M0 md by_ a b C j e) → A M rt 6 = t → A M rt 7 = k → (0 ≤ t ∧ t ≤ 20000 * ((s : Int) + 1)) → (0 ≤ k ∧ k ≤ 2000 + 2400 * ((s : Int) + 1)) → key by_ t k + C (pt_ M0 md by_ a b C s e) = K →
    ∃ (M' : am_M) (t' k' : Int), F 169 110 [.ref 32, .ref rt, .int (iI ((m : Int) + 1)), .int (iI ((s : Int) + 1))] [] M = some (none, M') ∧ Ke [rt] M M' ∧ A M' rt 6 = t' ∧ A M' rt 7 = k' ∧ (0 ≤ t' ∧ t' ≤ 20000 * ((m : Int) + 1)) ∧ (0 ≤ k' ∧ k' ≤ 2000 + 2400 * ((m : Int) + 1)) ∧ key by_ t' k' + C (pt_ M0 md by_ a b C m e) = K ∧ ∀ z : Int, 0 ≤ z → z ≠ 6 → z ≠ 7 → A M' rt z = A M rt z := by
  intro n
  induction n with
  | zero =>
    intro s M t k h hA h37 h34 hleg ht hk bt bk hK
    have e : s = m := by omega
    subst e
    refine ⟨M, t, k, ?_, Ke.refl, ht, hk, bt, bk, hK, fun z _ _ _ => rfl⟩
    refine s_Finder_measure_110 hF hg hr.1 ?_
    have hn := h2.1
    have hlt : ((s : Int) + 1 ≤ (s : Int) + 1) = True := eq_true (Int.le_refl _)
    simp (disch := (first | omega | decide | assumption)) only [ltm_s, ok_n, rd_i, rd_j, fd_i, fd_j, wr_i, wr_j, fw_i, fw_j, ci_s, cj_s, cv_s, dv_n, dw_n, rt_1, rt_b, rt_20, rt_21, okb_0, okb_1, okb_b, nar_0, nar_1, nar_b, i_0, i_1, j_0, j_1, i_lit, j_lit, i_n, iI_add, iI_sub, iI_mul, iI_neg, jI_add, jI_sub, jI_mul, jI_neg, sh_1, an_1, xo_1, di_p, dj_p, i_64A, i_64, j_32, lq_ge, lq_lt, lq_le, lq_gt, lq_eq, i_lt, i_le, i_eq, j_eq, iI_A, jI_J, iI_b, iI_v, jI_v, ↓reduceIte, ite_true, ite_false, Int.reduceEq, Int.reduceLT, Int.reduceLE, Int.reduceAdd, Int.reduceSub, Int.reduceMul, Int.reduceNeg, not_true_eq_false, not_false_eq_true, hlt]
  | succ n ih =>
    intro s M t k h hA h37 h34 hleg ht hk bt bk hK
    have hn := h2.1
    have hJ := h1.1
    have h42 := hr.2.1
    have hlt : ¬ (m : Int) + 1 ≤ (s : Int) + 1 := by omega
    have hi0 : ¬ (s : Int) + 1 ≤ 0 := by omega
    obtain ⟨⟨p0, p1⟩, pF⟩ : (0 ≤ pt_ M0 md by_ a b C (s + 1) e ∧ pt_ M0 md by_ a b C (s + 1) e < (2 * nW M0).toNat) ∧ C (pt_ M0 md by_ a b C (s + 1) e) ≠ FARC := hP.1 (s + 1) (by omega)
    obtain ⟨⟨o0, o1⟩, oF⟩ := hP.1 s (by omega)
    have ok := nf_ok hB o0 o1 oF
    rw [← pt_s] at ok
    have hstep : C (pt_ M0 md by_ a b C s e) = C (pt_ M0 md by_ a b C (s + 1) e) + wkk M0 by_ a b md.2.2.1 (pt_ M0 md by_ a b C (s + 1) e) := (ok.2.1.2.resolve_left (hP.2.1 s (by omega))).2
    have hl := hleg (s + 1) (by omega)
    have es : ((s + 1 : Nat) : Int) = (s : Int) + 1 := by omega
    rw [es] at hl
    generalize hQ : pt_ M0 md by_ a b C (s + 1) e = Q at *
    have hen := en_r h2 (e := Q) p0 (by omega)
    have hst := strg_r h1 h2 h4 a0 a1 b0 b1 hen.1 hen.2
    have hpr := prc_r h2 (w := Q / 2) (by omega) (by omega) u0 u1
    have x37 := h37 _ hen.1 hen.2
    have x34 := h34 (Q / 2) (by omega) (by omega)
    have K1 : Ke [rt] M (W_ M rt 6 (t + strg M0 a b (en M0 Q))) := Ke.refl.w (by simp)
    have K2 : Ke [rt] M (W_ (W_ M rt 6 (t + strg M0 a b (en M0 Q))) rt 7 (k + prc M0 (Q / 2) md.2.2.1)) := K1.w (by simp)
    have y7 : A (W_ M rt 6 (t + strg M0 a b (en M0 Q))) rt 7 = k := by rw [A_Wo (by omega) (by omega) (by omega)]; exact hk
    have yl : A (W_ M rt 6 (t + strg M0 a b (en M0 Q))) (rt + 1) ((s : Int) + 1) = Q := by rw [A_Wn (by omega)]; exact hl
    have y34 : A (W_ M rt 6 (t + strg M0 a b (en M0 Q))) 34 (Q / 2) = prc M0 (Q / 2) md.2.2.1 := by rw [A_Wn (by omega)]; exact x34
    have A2 : Ag M0 (W_ (W_ M rt 6 (t + strg M0 a b (en M0 Q))) rt 7 (k + prc M0 (Q / 2) md.2.2.1)) := hA.trans (K2.ag (by show (stN rt && true) = true; rw [hr.2.2.1]; rfl))
    obtain ⟨M', t', k', q1, q2, q3, q4, q5, q6, q7, q8⟩ := ih (s + 1) _ (t + strg M0 a b (en M0 Q)) (k + prc M0 (Q / 2) md.2.2.1) (by omega) A2 (fun j j0 j1 => by rw [Ke1.a K2 (by omega)]; exact h37 j j0 j1) (fun w w0 w1 => by rw [Ke1.a K2 (by omega)]; exact h34 w w0 w1) (fun j hj => by rw [Ke1.a K2 (by omega)]; exact hleg j hj) (by rw [A_Wo (by omega) (by omega) (by omega), A_Ws (by omega) (by omega)]) (by rw [A_Ws (by omega) (by omega)]) (by omega) (by omega) (by
      have ew : wkk M0 by_ a b md.2.2.1 Q = key by_ (strg M0 a b (en M0 Q)) (prc M0 (Q / 2) md.2.2.1) := rfl
      rw [ew] at hstep
      rw [← key_add (b := by_) (t := t) (n := k), hQ]
      omega)
    rw [es] at q1
    refine ⟨M', t', k', ?_, K2.trans q2, q3, q4, q5, q6, q7, fun z z0 z1 z2 => by rw [q8 z z0 z1 z2, A_Wo (by omega) z0 z2, A_Wo (by omega) z0 z1]⟩
    refine s_Finder_measure_110 hF hg hr.1 ?_
    simp (disch := (first | omega | decide | assumption)) only [ltm_s, ok_n, rd_i, rd_j, fd_i, fd_j, wr_i, wr_j, fw_i, fw_j, ci_s, cj_s, cv_s, dv_n, dw_n, rt_1, rt_b, rt_20, rt_21, okb_0, okb_1, okb_b, nar_0, nar_1, nar_b, i_0, i_1, j_0, j_1, i_lit, j_lit, i_n, iI_add, iI_sub, iI_mul, iI_neg, jI_add, jI_sub, jI_mul, jI_neg, sh_1, an_1, xo_1, di_p, dj_p, i_64A, i_64, j_32, lq_ge, lq_lt, lq_le, lq_gt, lq_eq, i_lt, i_le, i_eq, j_eq, iI_A, jI_J, iI_b, iI_v, jI_v, ↓reduceIte, ite_true, ite_false, Int.reduceEq, Int.reduceLT, Int.reduceLE, Int.reduceAdd, Int.reduceSub, Int.reduceMul, Int.reduceNeg, not_true_eq_false, not_false_eq_true, agA hA, agJA hA, ag hA, v_nJ, v_nW, v_nD, v_toD, v_px, v_py, v_rg, v_kd, v_ft, v_on, v_bg, v_en, @nJ_ M0, @nW_ M0, @nD_ M0, @toD_ M0, @px_ M0, @py_ M0, @rg_ M0, @kd_ M0, @ft_ M0, @on_ M0, bt_, hlt, hl, c_endOf hF hg hA h2, x37, ht, hi0, yl, y7, y34, q1]
end Me
