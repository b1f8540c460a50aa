/-! THE FINDER'S BEST -/
section Be
variable {M0 M M' : am_M} {g : am_G} {F : am_FT} {rt : Nat}
theorem c_measure0 (hF : F = am_F T0 g) (hg : GG g) (hr : rok g rt) (hl : A M rt 5 = 0) : F 169 0 [.ref 32, .ref rt] [] M = some (none, W_ (W_ M rt 6 (-1)) rt 7 (-1)) := by
  refine s_Finder_measure hF hg hr.1 ?_
  simp (disch := (first | omega | decide | assumption)) only [ltm_s, ok_n, rd_i, rd_j, fd_i, fd_j, wr_i, wr_j, fw_i, fw_j, ci_s, cj_s, cv_s, dv_n, dw_n, rt_1, rt_b, rt_20, rt_21, okb_0, okb_1, okb_b, nar_0, nar_1, nar_b, i_0, i_1, j_0, j_1, i_lit, j_lit, i_n, iI_add, iI_sub, iI_mul, iI_neg, jI_add, jI_sub, jI_mul, jI_neg, sh_1, an_1, xo_1, di_p, dj_p, i_64A, i_64, j_32, lq_ge, lq_lt, lq_le, lq_gt, lq_eq, i_lt, i_le, i_eq, j_eq, iI_A, jI_J, iI_b, iI_v, jI_v, ↓reduceIte, ite_true, ite_false, Int.reduceEq, Int.reduceLT, Int.reduceLE, Int.reduceAdd, Int.reduceSub, Int.reduceMul, Int.reduceNeg, not_true_eq_false, not_false_eq_true, hl]
theorem c_measure1 (hF : F = am_F T0 g) (hg : GG g) (hr : rok g rt) (h1 : I1 M0) (h2 : I2 M0) (h4 : I4 M0) {a b : Int} (a0 : 0 ≤ a) (a1 : a < nD M0) (b0 : 0 ≤ b) (b1 : b < nD M0) (hA : Ag M0 M) (hl : A M rt 5 = 1) (ha : A M rt 0 = a) (hb : A M rt 1 = b) {e : Int} (he : A M (rt + 1) 0 = e) (e0 : 0 ≤ e) (e1 : e < 2 * nW M0) :
    ∃ M' : am_M, F 169 0 [.ref 32, .ref rt] [] M = some (none, M') ∧ Ke [37, rt, rt + 1] M M' ∧ A M' rt 6 = 0 ∧ A M' rt 7 = ahd_ M0 a b e ∧ (∀ z : Int, A M' (rt + 1) z = A M (rt + 1) z) ∧ ∀ z : Int, 0 ≤ z → z ≠ 6 → z ≠ 7 → A M' rt z = A M rt z := by
  have hn := h2.1
  have hd := h4.1
  have h42 := hr.2.1
  obtain ⟨M1, q1, k1, -⟩ := c_stretchString hF hg hA h1 h2 h4 a0 a1 b0 b1
  have A1 : Ag M0 M1 := hA.trans (k1.ag (by decide))
  have kr : ∀ z : Int, A M1 rt z = A M rt z := fun z => k1.a (by simp only [List.mem_cons, List.not_mem_nil, or_false]; omega)
  have kr1 : ∀ z : Int, A M1 (rt + 1) z = A M (rt + 1) z := fun z => k1.a (by simp only [List.mem_cons, List.not_mem_nil, or_false]; omega)
  have K2 : Ke [rt] M1 (W_ M1 rt 6 0) := Ke.refl.w (by simp)
  have A2 : Ag M0 (W_ M1 rt 6 0) := A1.trans (K2.ag (by show (stN rt && true) = true; rw [hr.2.2.1]; rfl))
  have fa := c_feetAhead hF hg A2 h2 h4 e0 e1 a0 a1 b0 b1
  have ea : (if e % 2 = 0 then A M0 229 b - A M0 229 a else A M0 229 a - A M0 229 b) = ahd_ M0 a b e := rfl
  rw [ea] at fa
  have hr2 := ahd_r h2 h4 (e := e) a0 a1 b0 b1
  have x1 : A (W_ M1 rt 6 0) (rt + 1) 0 = e := by rw [A_Wn (by omega), kr1]; exact he
  have x2 : A (W_ M1 rt 6 0) rt 0 = a := by rw [A_Wo (by omega) (by omega) (by omega), kr]; exact ha
  have x3 : A (W_ M1 rt 6 0) rt 1 = b := by rw [A_Wo (by omega) (by omega) (by omega), kr]; exact hb
  refine ⟨W_ (W_ M1 rt 6 0) rt 7 (ahd_ M0 a b e), ?_, (k1.mono (by simp)).trans ((Ke.refl.w (by simp)).w (by simp)), ?_, ?_, fun z => ?_, fun z z0 z1 z2 => ?_⟩
  · refine s_Finder_measure hF hg hr.1 ?_
    simp (disch := (first | omega | decide | assumption)) only [ltm_s, ok_n, rd_i, rd_j, fd_i, fd_j, wr_i, wr_j, fw_i, fw_j, ci_s, cj_s, cv_s, dv_n, dw_n, rt_1, rt_b, rt_20, rt_21, okb_0, okb_1, okb_b, nar_0, nar_1, nar_b, i_0, i_1, j_0, j_1, i_lit, j_lit, i_n, iI_add, iI_sub, iI_mul, iI_neg, jI_add, jI_sub, jI_mul, jI_neg, sh_1, an_1, xo_1, di_p, dj_p, i_64A, i_64, j_32, lq_ge, lq_lt, lq_le, lq_gt, lq_eq, i_lt, i_le, i_eq, j_eq, iI_A, jI_J, iI_b, iI_v, jI_v, ↓reduceIte, ite_true, ite_false, Int.reduceEq, Int.reduceLT, Int.reduceLE, Int.reduceAdd, Int.reduceSub, Int.reduceMul, Int.reduceNeg, not_true_eq_false, not_false_eq_true, hl, ha, hb, q1, x1, x2, x3, fa]
  · rw [A_Wo (by omega) (by omega) (by omega), A_Ws (by omega) (by omega)]
  · rw [A_Ws (by omega) (by omega)]
  · rw [A_Wn (by omega), A_Wn (by omega)]; exact kr1 z
  · rw [A_Wo (by omega) z0 z2, A_Wo (by omega) z0 z1]; exact kr z
theorem c_measure2 (hF : F = am_F T0 g) (hg : GG g) (hr : rok g rt) (h1 : I1 M0) (h2 : I2 M0) (h4 : I4 M0) {md : Int × Int × Int × Int} {by_ a b : Int} {C : Int → Int} (u0 : 0 ≤ md.2.2.1) (u1 : md.2.2.1 < 24) (a0 : 0 ≤ a) (a1 : a < nD M0) (b0 : 0 ≤ b) (b1 : b < nD M0) (hB : Bel_ M0 md by_ a b C) (hA : Ag M0 M) (h34 : ∀ w : Int, 0 ≤ w → w < nW M0 → A M 34 w = prc M0 w md.2.2.1) {e : Int} {m : Nat} (hP : Pth_ M0 md by_ a b C m e) (hm : (m : Int) + 2 ≤ 2 * nW M0) (hea : e / 2 = A M0 228 a) (hl : A M rt 5 = (m : Int) + 2) (ha : A M rt 0 = a) (hb : A M rt 1 = b) (hleg : ∀ j : Nat, j ≤ m + 1 → A M (rt + 1) j = pt_ M0 md by_ a b C j e) :
    ∃ (M' : am_M) (t k : Int), F 169 0 [.ref 32, .ref rt] [] M = some (none, M') ∧ Ke [37, rt, rt + 1] M M' ∧ A M' rt 6 = t ∧ A M' rt 7 = k ∧ (0 ≤ t ∧ t ≤ 1620000) ∧ (0 ≤ k ∧ k ≤ 200000) ∧ key by_ t k = thru M0 by_ a b C e ∧ (∀ z : Int, A M' (rt + 1) z = A M (rt + 1) z) ∧ ∀ z : Int, 0 ≤ z → z ≠ 6 → z ≠ 7 → A M' rt z = A M rt z := by
  have hn := h2.1
  have hJ := h1.1
  have hd := h4.1
  have h42 := hr.2.1
  obtain ⟨M1, q1, k1, s1⟩ := c_stretchString hF hg hA h1 h2 h4 a0 a1 b0 b1
  have A1 : Ag M0 M1 := hA.trans (k1.ag (by decide))
  have kr : ∀ z : Int, A M1 rt z = A M rt z := fun z => k1.a (by simp only [List.mem_cons, List.not_mem_nil, or_false]; omega)
  have kr1 : ∀ z : Int, A M1 (rt + 1) z = A M (rt + 1) z := fun z => k1.a (by simp only [List.mem_cons, List.not_mem_nil, or_false]; omega)
  have K2 : Ke [rt] M1 (W_ M1 rt 6 0) := Ke.refl.w (by simp)
  have A2 : Ag M0 (W_ M1 rt 6 0) := A1.trans (K2.ag (by show (stN rt && true) = true; rw [hr.2.2.1]; rfl))
  obtain ⟨⟨e0, e1⟩, eFr⟩ : (0 ≤ e ∧ e < (2 * nW M0).toNat) ∧ C e ≠ FARC := hP.1 0 (by omega)
  -- the last leg
  obtain ⟨⟨o0, o1⟩, oF⟩ := hP.1 m (by omega)
  have ok := nf_ok hB o0 o1 oF
  rw [← pt_s] at ok
  have ok0 := ok.1
  obtain ⟨gl, gc⟩ := hP.2.2.1
  have hlast := hleg (m + 1) (by omega)
  have em : ((m + 1 : Nat) : Int) = (m : Int) + 1 := by omega
  rw [em] at hlast
  have hfirst : A M (rt + 1) 0 = e := hleg 0 (by omega)
  generalize hf : pt_ M0 md by_ a b C (m + 1) e = f at *
  have hff : pt (2 * nW M0).toNat (may M0 md) (gol M0 b) (gkk M0 by_ b) (wkk M0 by_ a b md.2.2.1) C (m + 1) e = f := hf
  rw [hff] at ok0 gl gc
  have fte := c_feetToEnd hF hg A2 h2 h4 e0 (by omega) a0 a1 hea
  have ffs := c_feetFromStart hF hg A2 h2 h4 ok0.1 (by omega) b0 b1 gl
  have rfd := fdr_r h2 h4 (b := a) (f := e) a0 a1
  have rtd := tdr_r h2 h4 (b := b) (f := f) b0 b1
  have x1 : A (W_ M1 rt 6 0) (rt + 1) 0 = e := by rw [A_Wn (by omega), kr1]; exact hfirst
  have x2 : A (W_ M1 rt 6 0) rt 0 = a := by rw [A_Wo (by omega) (by omega) (by omega), kr]; exact ha
  have x3 : A (W_ M1 rt 6 0) rt 1 = b := by rw [A_Wo (by omega) (by omega) (by omega), kr]; exact hb
  have x4 : A (W_ M1 rt 6 0) (rt + 1) ((m : Int) + 1) = f := by rw [A_Wn (by omega), kr1]; exact hlast
  have K3 : Ke [rt] M1 (W_ (W_ M1 rt 6 0) rt 7 (fdr M0 a e + tdr M0 b f)) := K2.w (by simp)
  have A3 : Ag M0 (W_ (W_ M1 rt 6 0) rt 7 (fdr M0 a e + tdr M0 b f)) := A1.trans (K3.ag (by show (stN rt && true) = true; rw [hr.2.2.1]; rfl))
  have hen := en_r h2 (e := e) e0 (by omega)
  have hst := strg_r h1 h2 h4 a0 a1 b0 b1 hen.1 hen.2
  have y6 : A (W_ (W_ M1 rt 6 0) rt 7 (fdr M0 a e + tdr M0 b f)) rt 6 = 0 := by rw [A_Wo (by omega) (by omega) (by omega), A_Ws (by omega) (by omega)]
  have yl : A (W_ (W_ M1 rt 6 0) rt 7 (fdr M0 a e + tdr M0 b f)) (rt + 1) 0 = e := by rw [A_Wn (by omega)]; exact x1
  have y37 : A (W_ (W_ M1 rt 6 0) rt 7 (fdr M0 a e + tdr M0 b f)) 37 (en M0 e) = strg M0 a b (en M0 e) := by rw [A_Wn (by omega), A_Wn (by omega)]; exact s1 _ hen.1 hen.2
  have K4 : Ke [rt] M1 (W_ (W_ (W_ M1 rt 6 0) rt 7 (fdr M0 a e + tdr M0 b f)) rt 6 (0 + strg M0 a b (en M0 e))) := K3.w (by simp)
  have A4 : Ag M0 (W_ (W_ (W_ M1 rt 6 0) rt 7 (fdr M0 a e + tdr M0 b f)) rt 6 (0 + strg M0 a b (en M0 e))) := A1.trans (K4.ag (by show (stN rt && true) = true; rw [hr.2.2.1]; rfl))
  have z7 : A (W_ (W_ (W_ M1 rt 6 0) rt 7 (fdr M0 a e + tdr M0 b f)) rt 6 (0 + strg M0 a b (en M0 e))) rt 7 = fdr M0 a e + tdr M0 b f := by rw [A_Wo (by omega) (by omega) (by omega), A_Ws (by omega) (by omega)]
  obtain ⟨M', t, k, p1, p2, p3, p4, p5, p6, p7, p8⟩ := c_measure_l hF hg hr h1 h2 h4 (K := C e + key by_ (strg M0 a b (en M0 e)) (fdr M0 a e + tdr M0 b f)) u0 u1 a0 a1 b0 b1 hB hP hm m 0 (W_ (W_ (W_ M1 rt 6 0) rt 7 (fdr M0 a e + tdr M0 b f)) rt 6 (0 + strg M0 a b (en M0 e))) (0 + strg M0 a b (en M0 e)) (fdr M0 a e + tdr M0 b f) (by omega) A4 (fun j j0 j1 => by rw [Ke1.a K4 (by omega)]; exact s1 j j0 j1) (fun w w0 w1 => by rw [Ke1.a K4 (by omega), k1.a (by decide)]; exact h34 w w0 w1) (fun j hj => by rw [Ke1.a K4 (by omega), kr1]; exact hleg j hj) (by rw [A_Ws (by omega) (by omega)]) z7 (by omega) (by omega) (by
    have ep : pt_ M0 md by_ a b C 0 e = e := rfl
    rw [ep, show (0 : Int) + strg M0 a b (en M0 e) = strg M0 a b (en M0 e) by omega]; omega)
  have e1' : (((0 : Nat) : Int) + 1) = 1 := rfl
  rw [e1'] at p1
  refine ⟨M', t, k, ?_, (k1.mono (by simp)).trans ((K4.mono (by simp)).trans (p2.mono (by simp))), p3, p4, by omega, by omega, ?_, fun z => ?_, fun z z1 z2 z3 => ?_⟩
  · have hl1 : ¬ (m : Int) + 2 - 1 = 0 := by omega
    have hl2 : (m : Int) + 2 - 1 = (m : Int) + 1 := by omega
    have hl0 : (0 ≤ (m : Int) + 1) = True := eq_true (by omega)
    have hl3 : ¬ (m : Int) + 1 = 0 := by omega
    have hl4 : ¬ (m : Int) + 1 ≤ 0 := by omega
    have lp : F 169 110 [.ref 32, .ref rt, .int (iI ((m : Int) + 1)), .int (iI 0)] [] (W_ (W_ M1 rt 6 0) rt 7 (fdr M0 a e + tdr M0 b f)) = some (none, M') := by
      refine s_Finder_measure_110 hF hg hr.1 ?_
      simp (disch := (first | omega | decide | assumption)) only [ltm_s, ok_n, rd_i, rd_j, fd_i, fd_j, wr_i, wr_j, fw_i, fw_j, ci_s, cj_s, cv_s, dv_n, dw_n, rt_1, rt_b, rt_20, rt_21, okb_0, okb_1, okb_b, nar_0, nar_1, nar_b, i_0, i_1, j_0, j_1, i_lit, j_lit, i_n, iI_add, iI_sub, iI_mul, iI_neg, jI_add, jI_sub, jI_mul, jI_neg, sh_1, an_1, xo_1, di_p, dj_p, i_64A, i_64, j_32, lq_ge, lq_lt, lq_le, lq_gt, lq_eq, i_lt, i_le, i_eq, j_eq, iI_A, jI_J, iI_b, iI_v, jI_v, ↓reduceIte, ite_true, ite_false, Int.reduceEq, Int.reduceLT, Int.reduceLE, Int.reduceAdd, Int.reduceSub, Int.reduceMul, Int.reduceNeg, not_true_eq_false, not_false_eq_true, hl4, yl, c_endOf hF hg A3 h2, y37, y6, Int.zero_add, p1]
      rw [Int.zero_add] at p1
      exact p1
    refine s_Finder_measure hF hg hr.1 ?_
    simp (disch := (first | omega | decide | assumption)) only [ltm_s, ok_n, rd_i, rd_j, fd_i, fd_j, wr_i, wr_j, fw_i, fw_j, ci_s, cj_s, cv_s, dv_n, dw_n, rt_1, rt_b, rt_20, rt_21, okb_0, okb_1, okb_b, nar_0, nar_1, nar_b, i_0, i_1, j_0, j_1, i_lit, j_lit, i_n, iI_add, iI_sub, iI_mul, iI_neg, jI_add, jI_sub, jI_mul, jI_neg, sh_1, an_1, xo_1, di_p, dj_p, i_64A, i_64, j_32, lq_ge, lq_lt, lq_le, lq_gt, lq_eq, i_lt, i_le, i_eq, j_eq, iI_A, jI_J, iI_b, iI_v, jI_v, ↓reduceIte, ite_true, ite_false, Int.reduceEq, Int.reduceLT, Int.reduceLE, Int.reduceAdd, Int.reduceSub, Int.reduceMul, Int.reduceNeg, not_true_eq_false, not_false_eq_true, hl, ha, hb, hl2, hl0, hl3, q1, x1, x2, x3, x4, fte, ffs, lp]
  · have hc : C (pt_ M0 md by_ a b C m e) = key by_ 0 (tdr M0 b f) := gc
    have ht : thru M0 by_ a b C e = C e + key by_ (strg M0 a b (en M0 e)) (fdr M0 a e) := if_neg eFr
    have hk : key by_ (strg M0 a b (en M0 e)) (fdr M0 a e + tdr M0 b f) = key by_ (strg M0 a b (en M0 e)) (fdr M0 a e) + key by_ 0 (tdr M0 b f) := by rw [key_add]; congr 1; omega
    omega
  · rw [Ke1.a p2 (by omega), Ke1.a K4 (by omega)]; exact kr1 z
  · rw [p8 z z1 z2 z3, A_Wo (by omega) z1 z2, A_Wo (by omega) z1 z3, A_Wo (by omega) z1 z2]; exact kr z
end Be
