/-! DOOR: what it changes; what stays when there are more ways and doors -/
section Dr
variable {M0 M M' : am_M} {g : am_G} {F : am_FT}
theorem c_addThing (hF : F = am_F T0 g) (hg : GG g) {s k t : Int} (ht : A M 1 17 = t) (t0 : 0 ≤ t) (t1 : t < 72) : F 1 0 [.ref 1, .int (iI s), .int (iI k)] [] M = some (none, W_ (W_ (W_ M 14 t s) 15 t k) 1 17 (t + 1)) := by
  refine s_City_addThing hF hg ?_
  simp (config := { maxSteps := 1000000 }) (disch := (first | omega | decide | assumption)) only [ltm_s, ok_n, rd_i, rd_j, fd_i, fd_j, wr_i, wr_j, fw_i, fw_j, ci_s, cj_s, cv_s, dv_n, dw_n, rt_1, rt_b, rt_20, rt_21, okb_0, okb_1, okb_b, nar_0, nar_1, nar_b, i_0, i_1, j_0, j_1, i_lit, j_lit, i_n, iI_add, iI_sub, iI_mul, iI_neg, jI_add, jI_sub, jI_mul, jI_neg, sh_1, an_1, xo_1, di_p, dj_p, i_64A, i_64, j_32, lq_ge, lq_lt, lq_le, lq_gt, lq_eq, i_lt, i_le, i_eq, j_eq, iI_A, jI_J, iI_b, iI_v, jI_v, ↓reduceIte, ite_true, ite_false, Int.reduceEq, Int.reduceLT, Int.reduceLE, Int.reduceAdd, Int.reduceSub, Int.reduceMul, Int.reduceNeg, not_true_eq_false, not_false_eq_true, A_Wn, A_WA, A_Wb, A_Ws, A_Wo, A_X, J_W, J_Xn, J_XJ, J_Xs, J_Xo, ht]
theorem m_comes (hF : F = am_F T0 g) (hg : GG g) {s k t : Int} (ht : A M 219 31 = t) (t0 : 0 ≤ t) (t1 : t < 72) : F 46 0 [.ref 219, .int (iI s), .int (iI k)] [] M = some (some (.int (iI k)), W_ (W_ (W_ M 244 t s) 245 t k) 219 31 (t + 1)) := by
  refine s_Model_comes hF hg ?_
  simp (config := { maxSteps := 1000000 }) (disch := (first | omega | decide | assumption)) only [ltm_s, ok_n, rd_i, rd_j, fd_i, fd_j, wr_i, wr_j, fw_i, fw_j, ci_s, cj_s, cv_s, dv_n, dw_n, rt_1, rt_b, rt_20, rt_21, okb_0, okb_1, okb_b, nar_0, nar_1, nar_b, i_0, i_1, j_0, j_1, i_lit, j_lit, i_n, iI_add, iI_sub, iI_mul, iI_neg, jI_add, jI_sub, jI_mul, jI_neg, sh_1, an_1, xo_1, di_p, dj_p, i_64A, i_64, j_32, lq_ge, lq_lt, lq_le, lq_gt, lq_eq, i_lt, i_le, i_eq, j_eq, iI_A, jI_J, iI_b, iI_v, jI_v, ↓reduceIte, ite_true, ite_false, Int.reduceEq, Int.reduceLT, Int.reduceLE, Int.reduceAdd, Int.reduceSub, Int.reduceMul, Int.reduceNeg, not_true_eq_false, not_false_eq_true, A_Wn, A_WA, A_Wb, A_Ws, A_Wo, A_X, J_W, J_Xn, J_XJ, J_Xs, J_Xo, ht]
end Dr
section Mn
variable {W : List Nat} {Q : List (Nat × Nat)} {M M' : am_M}
theorem Ch.i4m (h : Ch W Q M M') (hc : okc [11, 12, 13, 226, 228, 229, 230] [(219, 10), (1, 14)] W Q = true) (hw : nW M ≤ nW M') (hf : ∀ w : Int, 0 ≤ w → w < nW M → True) (i : I4 M) : I4 M' := by
  have e0 : nD M' = nD M := h.r _ _ hc (Or.inr (by decide))
  have e1 : A M' 1 14 = A M 1 14 := h.r _ _ hc (Or.inr (by decide))
  have e2 : ∀ z, A M' 11 z = A M 11 z := fun z => h.r _ _ hc (Or.inl (by decide))
  have e3 : ∀ z, A M' 12 z = A M 12 z := fun z => h.r _ _ hc (Or.inl (by decide))
  have e4 : ∀ z, A M' 13 z = A M 13 z := fun z => h.r _ _ hc (Or.inl (by decide))
  have e5 : ∀ z, ft M' z = ft M z := fun z => h.r _ _ hc (Or.inl (by decide))
  have e6 : ∀ z, A M' 228 z = A M 228 z := fun z => h.r _ _ hc (Or.inl (by decide))
  have e7 : ∀ z, A M' 229 z = A M 229 z := fun z => h.r _ _ hc (Or.inl (by decide))
  have e8 : ∀ z, A M' 230 z = A M 230 z := fun z => h.r _ _ hc (Or.inl (by decide))
  obtain ⟨i1, i2, i3⟩ := i
  unfold I4
  simp only [e0, e1, e2, e3, e4, e5, e6, e7, e8]
  refine ⟨i1, i2, fun d d0 d1 => ?_⟩
  obtain ⟨b1, b2⟩ := i3 d d0 d1
  exact ⟨⟨b1.1, by omega⟩, b2⟩
theorem Ch.i7m (h : Ch W Q M M') (hc : okc [26, 27, 28, 29, 30, 31, 238, 239, 240, 241, 242, 243] [(219, 24), (18, 16)] W Q = true) (hw : nW M ≤ nW M') (i : I7 M) : I7 M' := by
  have e0 : A M' 219 24 = A M 219 24 := h.r _ _ hc (Or.inr (by decide))
  have e1 : A M' 18 16 = A M 18 16 := h.r _ _ hc (Or.inr (by decide))
  have er : ∀ a : Nat, a ∈ [26, 27, 28, 29, 30, 31, 238, 239, 240, 241, 242, 243] → ∀ z, A M' a z = A M a z := fun a ha z => h.r _ _ hc (Or.inl ha)
  have g26 := er 26 (by decide)
  have g27 := er 27 (by decide)
  have g28 := er 28 (by decide)
  have g29 := er 29 (by decide)
  have g30 := er 30 (by decide)
  have g31 := er 31 (by decide)
  have g38 := er 238 (by decide)
  have g39 := er 239 (by decide)
  have g40 := er 240 (by decide)
  have g41 := er 241 (by decide)
  have g42 := er 242 (by decide)
  have g43 := er 243 (by decide)
  obtain ⟨i1, i2, i3⟩ := i
  unfold I7
  simp only [e0, e1, g26, g27, g28, g29, g30, g31, g38, g39, g40, g41, g42, g43]
  refine ⟨i1, i2, fun k k0 k1 => ?_⟩
  obtain ⟨b1, b2, b3⟩ := i3 k k0 k1
  exact ⟨⟨b1.1, by omega⟩, ⟨b2.1, by omega⟩, b3⟩
theorem Ch.i13m (h : Ch W Q M M') (hc : okc (247 :: 248 :: 249 :: List.range' 91 20) [(219, 37), (0, 9)] W Q = true) (hw : nW M ≤ nW M') (i : I13 M) : I13 M' := by
  have e1 : A M' 219 37 = A M 219 37 := h.r _ _ hc (Or.inr (by decide))
  have e2 : A M' 0 9 = A M 0 9 := h.r _ _ hc (Or.inr (by decide))
  obtain ⟨i1, i2, i3⟩ := i
  refine ⟨by rw [e1]; exact i1, by rw [e1, e2]; exact i2, fun r r0 r1 => ?_⟩
  rw [e1] at r1
  obtain ⟨c1, c2, c3, c4⟩ := i3 r r0 r1
  have e0 : ∀ z, A M' (91 + 2 * r.toNat) z = A M (91 + 2 * r.toNat) z := fun z => h.r _ _ hc (Or.inl (List.mem_cons_of_mem _ (List.mem_cons_of_mem _ (List.mem_cons_of_mem _ (mRg (by omega) (by omega))))))
  have e4 : ∀ z, A M' (91 + 2 * r.toNat + 1) z = A M (91 + 2 * r.toNat + 1) z := fun z => h.r _ _ hc (Or.inl (List.mem_cons_of_mem _ (List.mem_cons_of_mem _ (List.mem_cons_of_mem _ (mRg (by omega) (by omega))))))
  have e5 : ∀ z, A M' 247 z = A M 247 z := fun z => h.r _ _ hc (Or.inl (by simp only [List.mem_cons, true_or, or_true]))
  have e6 : ∀ z, A M' 248 z = A M 248 z := fun z => h.r _ _ hc (Or.inl (by simp only [List.mem_cons, true_or, or_true]))
  have e7 : ∀ z, A M' 249 z = A M 249 z := fun z => h.r _ _ hc (Or.inl (by simp only [List.mem_cons, true_or, or_true]))
  unfold B13
  simp only [e0, e4, e5, e6, e7]
  refine ⟨c1, c2, fun i i0 i1 => ?_, c4⟩
  obtain ⟨b1, b2⟩ := c3 i i0 i1
  exact ⟨⟨b1.1, by omega⟩, b2⟩
theorem Ch.i17m (h : Ch W Q M M') (hc : okc (256 :: 257 :: 258 :: List.range' 137 72) [(219, 49), (0, 15)] W Q = true) (hw : nW M ≤ nW M') (hd : nD M ≤ nD M') (hfo : ∀ e f : Int, 0 ≤ e → e < 2 * nW M → 0 ≤ f → f < 2 * nW M → fol M e f → fol M' e f) (i : I17 M) : I17 M' := by
  have e1 : A M' 219 49 = A M 219 49 := h.r _ _ hc (Or.inr (by decide))
  have e2 : A M' 0 15 = A M 0 15 := h.r _ _ hc (Or.inr (by decide))
  have e5 : ∀ z, A M' 256 z = A M 256 z := fun z => h.r _ _ hc (Or.inl (by simp only [List.mem_cons, true_or, or_true]))
  have e6 : ∀ z, A M' 257 z = A M 257 z := fun z => h.r _ _ hc (Or.inl (by simp only [List.mem_cons, true_or, or_true]))
  have e7 : ∀ z, J M' 258 z = J M 258 z := fun z => h.rj _ _ hc (Or.inl (by simp only [List.mem_cons, true_or, or_true])) rfl
  obtain ⟨i1, i2, i3⟩ := i
  refine ⟨by rw [e1]; exact i1, by rw [e1, e2]; exact i2, fun k k0 k1 => ?_⟩
  rw [e1] at k1
  obtain ⟨b1, b2, b3, b4, b5, b6, c0, c1, c2, c3, c4, c5, c6, c7, d1, d2, d3, d4, d5, d6⟩ := i3 k k0 k1
  have er : ∀ a : Nat, 137 ≤ a → a < 209 → ∀ z, A M' a z = A M a z := fun a a0 a1 z => h.r _ _ hc (Or.inl (List.mem_cons_of_mem _ (List.mem_cons_of_mem _ (List.mem_cons_of_mem _ (mRg (by omega) (by omega))))))
  have f0 := er (137 + 3 * k.toNat) (by omega) (by omega)
  have f1 := er (137 + 3 * k.toNat + 1) (by omega) (by omega)
  have f2 := er (137 + 3 * k.toNat + 1 + 1) (by omega) (by omega)
  unfold B17
  simp only [f0, f1, f2, e5, e6, e7]
  refine ⟨⟨b1.1, by omega⟩, ⟨b2.1, by omega⟩, b3, b4, b5, b6, c0, c1, c2, c3, c4, c5, c6, c7, fun i i0 i1 => ?_, d2, d3, d4, d5, fun i i0 i1 => ?_⟩
  · obtain ⟨x1, x2⟩ := d1 i i0 i1
    exact ⟨⟨x1.1, by omega⟩, x2⟩
  · have a := (d1 i i0 (by omega)).1
    have b := (d1 (i + 1) (by omega) i1).1
    rw [show 80 * k + (i + 1) = 80 * k + i + 1 by omega] at b
    exact hfo _ _ a.1 a.2 b.1 b.2 (d6 i i0 i1)
/-- one thing more -/
theorem I10_up (i : I10 M) {s k : Int} (hj : nJ M ≤ nJ M') (hw : nW M ≤ nW M') (hd : nD M ≤ nD M') (hs : nJ M' + nW M' + nD M' = nJ M + nW M + nD M + 1)
    (e1 : A M' 219 31 = A M 219 31 + 1) (e2 : A M' 1 17 = A M 219 31 + 1)
    (r14 : ∀ t : Int, 0 ≤ t → ¬ t = A M 219 31 → A M' 14 t = A M 14 t) (r15 : ∀ t : Int, 0 ≤ t → ¬ t = A M 219 31 → A M' 15 t = A M 15 t)
    (r24 : ∀ t : Int, 0 ≤ t → ¬ t = A M 219 31 → A M' 244 t = A M 244 t) (r25 : ∀ t : Int, 0 ≤ t → ¬ t = A M 219 31 → A M' 245 t = A M 245 t)
    (s14 : A M' 14 (A M 219 31) = s) (s15 : A M' 15 (A M 219 31) = k) (s24 : A M' 244 (A M 219 31) = s) (s25 : A M' 245 (A M 219 31) = k)
    (hk : s = 0 ∧ (0 ≤ k ∧ k < nJ M') ∨ s = 1 ∧ (0 ≤ k ∧ k < nW M') ∨ s = 2 ∧ (0 ≤ k ∧ k < nD M')) : I10 M' := by
  obtain ⟨i1, i2, i3⟩ := i
  refine ⟨by rw [e1]; omega, by rw [e1, e2], fun t t0 t1 => ?_⟩
  rw [e1] at t1
  by_cases q : t = A M 219 31
  · rw [q, s14, s15, s24, s25]
    exact ⟨rfl, rfl, hk⟩
  · rw [r14 t t0 q, r15 t t0 q, r24 t t0 q, r25 t t0 q]
    obtain ⟨b1, b2, b3⟩ := i3 t t0 (by omega)
    refine ⟨b1, b2, ?_⟩
    rcases b3 with ⟨x, y⟩ | ⟨x, y⟩ | ⟨x, y⟩
    · exact Or.inl ⟨x, by omega⟩
    · exact Or.inr (Or.inl ⟨x, by omega⟩)
    · exact Or.inr (Or.inr ⟨x, by omega⟩)
end Mn
section Dr2
variable {M0 M M' : am_M} {g : am_G} {F : am_FT}
theorem b_door (hF : F = am_F T0 g) (hg : GG g) (hI : Inv M) {w x s : Int} (w1 : -2147483648 ≤ w) (w2 : w < 2147483648) (x1 : -2147483648 ≤ x) (x2 : x < 2147483648) (s1 : -2147483648 ≤ s) (s2 : s < 2147483648) :
    ∃ (r : Int) (M1 M2 : am_M), F 203 0 [.ref 0, .int (iI w), .int (iI x), .int (iI s)] [] M = some (some (.int (iI r)), M1) ∧ F 180 0 [.ref 219, .int (iI w), .int (iI x), .int (iI s)] [] M1 = some (some (.int (iI r)), M2) ∧ Inv M2 := by
  have hI' := hI
  obtain ⟨h1, h2, h3, h4, h5, h6, h7, h8, h9, h10, h11, h12, h13, h14, h15, h16, h17, h18, h19, hm, ht⟩ := hI
  have hn := h2.1
  have hj := h1.1
  have hA := Ag.refl M
  have hth := h10.1
  have hth2 := h10.2.1
  have h4' := h4
  obtain ⟨a1, a2, a3⟩ := h4
  have eD : A M 219 10 = nD M := rfl
  have mw := m_isWay hF hg hA h2 w1 w2
  have nw := c_noWay hF hg hA h2 w1 w2
  by_cases q1 : w < 0 ∨ nW M - 1 < w
  · rw [bI_t q1] at nw
    rw [bI_f (by omega)] at mw
    refine ⟨-1, M, M, ?_, ?_, hI'⟩
    · refine s_RunSayer_door hF hg ?_
      refine ci_in nw ?_
      rw [if_neg (show ¬ iI 1 = 0 by decide)]
      rfl
    · refine s_Model_door hF hg ?_
      refine ci_in mw ?_
      rw [if_pos (show iI 0 = 0 from rfl)]
      rfl
  rw [bI_f q1] at nw
  rw [bI_t (by omega)] at mw
  obtain ⟨k1, k2, k3, k4, k5, k6⟩ := h2.2.2.1 w (by omega) (by omega)
  have x6 : A M 6 w = ft M w := k5
  have x26 : A M 226 w = ft M w := rfl
  have cx := c_outside hF hg (M := M) (v := x) (l := 1) (h := ft M w - 1) x1 x2 (by omega) (by omega) (by omega) (by omega)
  have mx := m_inn hF hg (M := M) (v := x) (l := 1) (h := ft M w - 1) x1 x2 (by omega) (by omega) (by omega) (by omega)
  by_cases q2 : x < 1 ∨ ft M w - 1 < x
  · rw [bI_t q2] at cx
    rw [bI_f (by omega)] at mx
    refine ⟨-2, M, M, ?_, ?_, hI'⟩
    · refine s_RunSayer_door hF hg ?_
      refine ci_in (nw) ?_
      rw [if_pos (show iI 0 = 0 from rfl)]
      simp (config := { maxSteps := 1000000 }) (disch := (first | omega | decide | assumption)) only [ltm_s, ok_n, rd_i, rd_j, fd_i, fd_j, wr_i, wr_j, fw_i, fw_j, ci_s, cj_s, cv_s, dv_n, dw_n, rt_1, rt_b, rt_20, rt_21, okb_0, okb_1, okb_b, nar_0, nar_1, nar_b, i_0, i_1, j_0, j_1, i_lit, j_lit, i_n, iI_add, iI_sub, iI_mul, iI_neg, jI_add, jI_sub, jI_mul, jI_neg, sh_1, an_1, xo_1, di_p, dj_p, i_64A, i_64, j_32, lq_ge, lq_lt, lq_le, lq_gt, lq_eq, i_lt, i_le, i_eq, j_eq, iI_A, jI_J, iI_b, iI_v, jI_v, ↓reduceIte, ite_true, ite_false, Int.reduceEq, Int.reduceLT, Int.reduceLE, Int.reduceAdd, Int.reduceSub, Int.reduceMul, Int.reduceNeg, not_true_eq_false, not_false_eq_true, x6, cx]
    · refine s_Model_door hF hg ?_
      refine ci_in (mw) ?_
      rw [if_neg (show ¬ iI 1 = 0 by decide)]
      simp (config := { maxSteps := 1000000 }) (disch := (first | omega | decide | assumption)) only [ltm_s, ok_n, rd_i, rd_j, fd_i, fd_j, wr_i, wr_j, fw_i, fw_j, ci_s, cj_s, cv_s, dv_n, dw_n, rt_1, rt_b, rt_20, rt_21, okb_0, okb_1, okb_b, nar_0, nar_1, nar_b, i_0, i_1, j_0, j_1, i_lit, j_lit, i_n, iI_add, iI_sub, iI_mul, iI_neg, jI_add, jI_sub, jI_mul, jI_neg, sh_1, an_1, xo_1, di_p, dj_p, i_64A, i_64, j_32, lq_ge, lq_lt, lq_le, lq_gt, lq_eq, i_lt, i_le, i_eq, j_eq, iI_A, jI_J, iI_b, iI_v, jI_v, ↓reduceIte, ite_true, ite_false, Int.reduceEq, Int.reduceLT, Int.reduceLE, Int.reduceAdd, Int.reduceSub, Int.reduceMul, Int.reduceNeg, not_true_eq_false, not_false_eq_true, x26, mx]
  rw [bI_f q2] at cx
  rw [bI_t (by omega)] at mx
  have cs := c_noBit hF hg (M := M) s1 s2
  have ms := m_inn hF hg (M := M) (v := s) (l := 0) (h := 1) s1 s2 (by omega) (by omega) (by omega) (by omega)
  by_cases q3 : s < 0 ∨ 1 < s
  · rw [bI_t q3] at cs
    rw [bI_f (by omega)] at ms
    refine ⟨-2, M, M, ?_, ?_, hI'⟩
    · refine s_RunSayer_door hF hg ?_
      refine ci_in (nw) ?_
      rw [if_pos (show iI 0 = 0 from rfl)]
      simp (config := { maxSteps := 1000000 }) (disch := (first | omega | decide | assumption)) only [ltm_s, ok_n, rd_i, rd_j, fd_i, fd_j, wr_i, wr_j, fw_i, fw_j, ci_s, cj_s, cv_s, dv_n, dw_n, rt_1, rt_b, rt_20, rt_21, okb_0, okb_1, okb_b, nar_0, nar_1, nar_b, i_0, i_1, j_0, j_1, i_lit, j_lit, i_n, iI_add, iI_sub, iI_mul, iI_neg, jI_add, jI_sub, jI_mul, jI_neg, sh_1, an_1, xo_1, di_p, dj_p, i_64A, i_64, j_32, lq_ge, lq_lt, lq_le, lq_gt, lq_eq, i_lt, i_le, i_eq, j_eq, iI_A, jI_J, iI_b, iI_v, jI_v, ↓reduceIte, ite_true, ite_false, Int.reduceEq, Int.reduceLT, Int.reduceLE, Int.reduceAdd, Int.reduceSub, Int.reduceMul, Int.reduceNeg, not_true_eq_false, not_false_eq_true, x6, cx, cs]
    · refine s_Model_door hF hg ?_
      refine ci_in (mw) ?_
      rw [if_neg (show ¬ iI 1 = 0 by decide)]
      simp (config := { maxSteps := 1000000 }) (disch := (first | omega | decide | assumption)) only [ltm_s, ok_n, rd_i, rd_j, fd_i, fd_j, wr_i, wr_j, fw_i, fw_j, ci_s, cj_s, cv_s, dv_n, dw_n, rt_1, rt_b, rt_20, rt_21, okb_0, okb_1, okb_b, nar_0, nar_1, nar_b, i_0, i_1, j_0, j_1, i_lit, j_lit, i_n, iI_add, iI_sub, iI_mul, iI_neg, jI_add, jI_sub, jI_mul, jI_neg, sh_1, an_1, xo_1, di_p, dj_p, i_64A, i_64, j_32, lq_ge, lq_lt, lq_le, lq_gt, lq_eq, i_lt, i_le, i_eq, j_eq, iI_A, jI_J, iI_b, iI_v, jI_v, ↓reduceIte, ite_true, ite_false, Int.reduceEq, Int.reduceLT, Int.reduceLE, Int.reduceAdd, Int.reduceSub, Int.reduceMul, Int.reduceNeg, not_true_eq_false, not_false_eq_true, x26, mx, ms]
  rw [bI_f q3] at cs
  rw [bI_t (by omega)] at ms
  by_cases q4 : nD M = 8
  · refine ⟨-4, M, M, ?_, ?_, hI'⟩
    · have ad : F 83 0 [.ref 1, .int (iI w), .int (iI x), .int (iI s)] [] M = some (some (.int (iI (-4))), M) := by
        refine s_City_addDoor hF hg ?_
        simp (config := { maxSteps := 1000000 }) (disch := (first | omega | decide | assumption)) only [ltm_s, ok_n, rd_i, rd_j, fd_i, fd_j, wr_i, wr_j, fw_i, fw_j, ci_s, cj_s, cv_s, dv_n, dw_n, rt_1, rt_b, rt_20, rt_21, okb_0, okb_1, okb_b, nar_0, nar_1, nar_b, i_0, i_1, j_0, j_1, i_lit, j_lit, i_n, iI_add, iI_sub, iI_mul, iI_neg, jI_add, jI_sub, jI_mul, jI_neg, sh_1, an_1, xo_1, di_p, dj_p, i_64A, i_64, j_32, lq_ge, lq_lt, lq_le, lq_gt, lq_eq, i_lt, i_le, i_eq, j_eq, iI_A, jI_J, iI_b, iI_v, jI_v, ↓reduceIte, ite_true, ite_false, Int.reduceEq, Int.reduceLT, Int.reduceLE, Int.reduceAdd, Int.reduceSub, Int.reduceMul, Int.reduceNeg, not_true_eq_false, not_false_eq_true, a2, q4]
      refine s_RunSayer_door hF hg ?_
      refine ci_in (nw) ?_
      rw [if_pos (show iI 0 = 0 from rfl)]
      simp (config := { maxSteps := 1000000 }) (disch := (first | omega | decide | assumption)) only [ltm_s, ok_n, rd_i, rd_j, fd_i, fd_j, wr_i, wr_j, fw_i, fw_j, ci_s, cj_s, cv_s, dv_n, dw_n, rt_1, rt_b, rt_20, rt_21, okb_0, okb_1, okb_b, nar_0, nar_1, nar_b, i_0, i_1, j_0, j_1, i_lit, j_lit, i_n, iI_add, iI_sub, iI_mul, iI_neg, jI_add, jI_sub, jI_mul, jI_neg, sh_1, an_1, xo_1, di_p, dj_p, i_64A, i_64, j_32, lq_ge, lq_lt, lq_le, lq_gt, lq_eq, i_lt, i_le, i_eq, j_eq, iI_A, jI_J, iI_b, iI_v, jI_v, ↓reduceIte, ite_true, ite_false, Int.reduceEq, Int.reduceLT, Int.reduceLE, Int.reduceAdd, Int.reduceSub, Int.reduceMul, Int.reduceNeg, not_true_eq_false, not_false_eq_true, x6, cx, cs, ad]
    · refine s_Model_door hF hg ?_
      refine ci_in (mw) ?_
      rw [if_neg (show ¬ iI 1 = 0 by decide)]
      simp (config := { maxSteps := 1000000 }) (disch := (first | omega | decide | assumption)) only [ltm_s, ok_n, rd_i, rd_j, fd_i, fd_j, wr_i, wr_j, fw_i, fw_j, ci_s, cj_s, cv_s, dv_n, dw_n, rt_1, rt_b, rt_20, rt_21, okb_0, okb_1, okb_b, nar_0, nar_1, nar_b, i_0, i_1, j_0, j_1, i_lit, j_lit, i_n, iI_add, iI_sub, iI_mul, iI_neg, jI_add, jI_sub, jI_mul, jI_neg, sh_1, an_1, xo_1, di_p, dj_p, i_64A, i_64, j_32, lq_ge, lq_lt, lq_le, lq_gt, lq_eq, i_lt, i_le, i_eq, j_eq, iI_A, jI_J, iI_b, iI_v, jI_v, ↓reduceIte, ite_true, ite_false, Int.reduceEq, Int.reduceLT, Int.reduceLE, Int.reduceAdd, Int.reduceSub, Int.reduceMul, Int.reduceNeg, not_true_eq_false, not_false_eq_true, x26, mx, ms, eD, q4]
  have q5 : nD M < 8 := by omega
  obtain ⟨C1, g1⟩ : ∃ y : am_M, y = W_ (W_ (W_ (W_ M 11 (nD M) w) 12 (nD M) x) 13 (nD M) s) 1 14 (nD M + 1) := ⟨_, rfl⟩
  obtain ⟨M1, e1⟩ : ∃ y : am_M, y = W_ (W_ (W_ (W_ (W_ (W_ (W_ M 11 (nD M) w) 12 (nD M) x) 13 (nD M) s) 1 14 (nD M + 1)) 14 (A M 219 31) 2) 15 (A M 219 31) (nD M)) 1 17 (A M 219 31 + 1) := ⟨_, rfl⟩
  obtain ⟨C2, g2⟩ : ∃ y : am_M, y = W_ (W_ (W_ (W_ (M1) 228 (nD M) w) 229 (nD M) x) 230 (nD M) s) 219 10 (nD M + 1) := ⟨_, rfl⟩
  obtain ⟨M2, e2⟩ : ∃ y : am_M, y = W_ (W_ (W_ (W_ (W_ (W_ (W_ (W_ (W_ (W_ (W_ (W_ (W_ (W_ M 11 (nD M) w) 12 (nD M) x) 13 (nD M) s) 1 14 (nD M + 1)) 14 (A M 219 31) 2) 15 (A M 219 31) (nD M)) 1 17 (A M 219 31 + 1)) 228 (nD M) w) 229 (nD M) x) 230 (nD M) s) 219 10 (nD M + 1)) 244 (A M 219 31) 2) 245 (A M 219 31) (nD M)) 219 31 (A M 219 31 + 1) := ⟨_, rfl⟩
  have c1 : Ch [11, 12, 13, 14, 15] [(1, 14), (1, 17)] M M1 := by
    rw [e1]; exact (((((((Ch.refl.wm (Or.inl (by decide))).wm (Or.inl (by decide))).wm (Or.inl (by decide))).wm (Or.inr (by decide))).wm (Or.inl (by decide))).wm (Or.inl (by decide))).wm (Or.inr (by decide)))
  have c : Ch [11, 12, 13, 14, 15, 228, 229, 230, 244, 245] [(1, 14), (1, 17), (219, 10), (219, 31)] M M2 := by
    rw [e2]; exact ((((((((((((((Ch.refl.wm (Or.inl (by decide))).wm (Or.inl (by decide))).wm (Or.inl (by decide))).wm (Or.inr (by decide))).wm (Or.inl (by decide))).wm (Or.inl (by decide))).wm (Or.inr (by decide))).wm (Or.inl (by decide))).wm (Or.inl (by decide))).wm (Or.inl (by decide))).wm (Or.inr (by decide))).wm (Or.inl (by decide))).wm (Or.inl (by decide))).wm (Or.inr (by decide)))
  have t17 : A C1 1 17 = A M 219 31 := by
    rw [g1, ← hth2]; simp (config := { maxSteps := 1000000 }) (disch := (first | omega | decide | assumption)) only [ltm_s, ok_n, rd_i, rd_j, fd_i, fd_j, wr_i, wr_j, fw_i, fw_j, ci_s, cj_s, cv_s, dv_n, dw_n, rt_1, rt_b, rt_20, rt_21, okb_0, okb_1, okb_b, nar_0, nar_1, nar_b, i_0, i_1, j_0, j_1, i_lit, j_lit, i_n, iI_add, iI_sub, iI_mul, iI_neg, jI_add, jI_sub, jI_mul, jI_neg, sh_1, an_1, xo_1, di_p, dj_p, i_64A, i_64, j_32, lq_ge, lq_lt, lq_le, lq_gt, lq_eq, i_lt, i_le, i_eq, j_eq, iI_A, jI_J, iI_b, iI_v, jI_v, ↓reduceIte, ite_true, ite_false, Int.reduceEq, Int.reduceLT, Int.reduceLE, Int.reduceAdd, Int.reduceSub, Int.reduceMul, Int.reduceNeg, not_true_eq_false, not_false_eq_true, A_Wn, A_WA, A_Wb, A_Ws, A_Wo, A_X, J_W, J_Xn, J_XJ, J_Xs, J_Xo]
  have at1 := c_addThing hF hg (s := 2) (k := nD M) t17 (by omega) (by omega)
  have at2 : W_ (W_ (W_ C1 14 (A M 219 31) 2) 15 (A M 219 31) (nD M)) 1 17 (A M 219 31 + 1) = M1 := by rw [e1, g1]
  rw [at2] at at1
  have ad : F 83 0 [.ref 1, .int (iI w), .int (iI x), .int (iI s)] [] M = some (some (.int (iI (nD M))), M1) := by
    refine s_City_addDoor hF hg ?_
    simp (config := { maxSteps := 1000000 }) (disch := (first | omega | decide | assumption)) only [ltm_s, ok_n, rd_i, rd_j, fd_i, fd_j, wr_i, wr_j, fw_i, fw_j, ci_s, cj_s, cv_s, dv_n, dw_n, rt_1, rt_b, rt_20, rt_21, okb_0, okb_1, okb_b, nar_0, nar_1, nar_b, i_0, i_1, j_0, j_1, i_lit, j_lit, i_n, iI_add, iI_sub, iI_mul, iI_neg, jI_add, jI_sub, jI_mul, jI_neg, sh_1, an_1, xo_1, di_p, dj_p, i_64A, i_64, j_32, lq_ge, lq_lt, lq_le, lq_gt, lq_eq, i_lt, i_le, i_eq, j_eq, iI_A, jI_J, iI_b, iI_v, jI_v, ↓reduceIte, ite_true, ite_false, Int.reduceEq, Int.reduceLT, Int.reduceLE, Int.reduceAdd, Int.reduceSub, Int.reduceMul, Int.reduceNeg, not_true_eq_false, not_false_eq_true, A_Wn, A_WA, A_Wb, A_Ws, A_Wo, A_X, J_W, J_Xn, J_XJ, J_Xs, J_Xo, a2, q5, g1.symm, at1]
  refine ⟨nD M, M1, M2, ?_, ?_, ?_⟩
  · refine s_RunSayer_door hF hg ?_
    refine ci_in (nw) ?_
    rw [if_pos (show iI 0 = 0 from rfl)]
    simp (config := { maxSteps := 1000000 }) (disch := (first | omega | decide | assumption)) only [ltm_s, ok_n, rd_i, rd_j, fd_i, fd_j, wr_i, wr_j, fw_i, fw_j, ci_s, cj_s, cv_s, dv_n, dw_n, rt_1, rt_b, rt_20, rt_21, okb_0, okb_1, okb_b, nar_0, nar_1, nar_b, i_0, i_1, j_0, j_1, i_lit, j_lit, i_n, iI_add, iI_sub, iI_mul, iI_neg, jI_add, jI_sub, jI_mul, jI_neg, sh_1, an_1, xo_1, di_p, dj_p, i_64A, i_64, j_32, lq_ge, lq_lt, lq_le, lq_gt, lq_eq, i_lt, i_le, i_eq, j_eq, iI_A, jI_J, iI_b, iI_v, jI_v, ↓reduceIte, ite_true, ite_false, Int.reduceEq, Int.reduceLT, Int.reduceLE, Int.reduceAdd, Int.reduceSub, Int.reduceMul, Int.reduceNeg, not_true_eq_false, not_false_eq_true, x6, cx, cs, ad]
  · have y2 := c1.i2 rfl h2
    have y4 : nW M1 = nW M := c1.f (a := 219) (z := 4) rfl
    have mw' := m_isWay hF hg (Ag.refl M1) y2 w1 w2
    rw [bI_t (by omega)] at mw'
    have x26' : A M1 226 w = ft M w := c1.a (a := 226) rfl
    have mx' := m_inn hF hg (M := M1) (v := x) (l := 1) (h := ft M w - 1) x1 x2 (by omega) (by omega) (by omega) (by omega)
    rw [bI_t (by omega)] at mx'
    have ms' := m_inn hF hg (M := M1) (v := s) (l := 0) (h := 1) s1 s2 (by omega) (by omega) (by omega) (by omega)
    rw [bI_t (by omega)] at ms'
    have eD' : A M1 219 10 = nD M := c1.f (a := 219) (z := 10) rfl
    have t31 : A C2 219 31 = A M 219 31 := by
      rw [g2]; simp (config := { maxSteps := 1000000 }) (disch := (first | omega | decide | assumption)) only [ltm_s, ok_n, rd_i, rd_j, fd_i, fd_j, wr_i, wr_j, fw_i, fw_j, ci_s, cj_s, cv_s, dv_n, dw_n, rt_1, rt_b, rt_20, rt_21, okb_0, okb_1, okb_b, nar_0, nar_1, nar_b, i_0, i_1, j_0, j_1, i_lit, j_lit, i_n, iI_add, iI_sub, iI_mul, iI_neg, jI_add, jI_sub, jI_mul, jI_neg, sh_1, an_1, xo_1, di_p, dj_p, i_64A, i_64, j_32, lq_ge, lq_lt, lq_le, lq_gt, lq_eq, i_lt, i_le, i_eq, j_eq, iI_A, jI_J, iI_b, iI_v, jI_v, ↓reduceIte, ite_true, ite_false, Int.reduceEq, Int.reduceLT, Int.reduceLE, Int.reduceAdd, Int.reduceSub, Int.reduceMul, Int.reduceNeg, not_true_eq_false, not_false_eq_true, A_Wn, A_WA, A_Wb, A_Ws, A_Wo, A_X, J_W, J_Xn, J_XJ, J_Xs, J_Xo]
      exact c1.f (a := 219) (z := 31) rfl
    have c10 : A C2 219 10 = nD M + 1 := by
      rw [g2]; simp (config := { maxSteps := 1000000 }) (disch := (first | omega | decide | assumption)) only [ltm_s, ok_n, rd_i, rd_j, fd_i, fd_j, wr_i, wr_j, fw_i, fw_j, ci_s, cj_s, cv_s, dv_n, dw_n, rt_1, rt_b, rt_20, rt_21, okb_0, okb_1, okb_b, nar_0, nar_1, nar_b, i_0, i_1, j_0, j_1, i_lit, j_lit, i_n, iI_add, iI_sub, iI_mul, iI_neg, jI_add, jI_sub, jI_mul, jI_neg, sh_1, an_1, xo_1, di_p, dj_p, i_64A, i_64, j_32, lq_ge, lq_lt, lq_le, lq_gt, lq_eq, i_lt, i_le, i_eq, j_eq, iI_A, jI_J, iI_b, iI_v, jI_v, ↓reduceIte, ite_true, ite_false, Int.reduceEq, Int.reduceLT, Int.reduceLE, Int.reduceAdd, Int.reduceSub, Int.reduceMul, Int.reduceNeg, not_true_eq_false, not_false_eq_true, A_Wn, A_WA, A_Wb, A_Ws, A_Wo, A_X, J_W, J_Xn, J_XJ, J_Xs, J_Xo]
    have mc := m_comes hF hg (s := 2) (k := nD M) t31 (by omega) (by omega)
    have mc2 : W_ (W_ (W_ C2 244 (A M 219 31) 2) 245 (A M 219 31) (nD M)) 219 31 (A M 219 31 + 1) = M2 := by rw [e2, g2, e1]
    rw [mc2] at mc
    refine s_Model_door hF hg ?_
    refine ci_in (mw') ?_
    rw [if_neg (show ¬ iI 1 = 0 by decide)]
    simp (config := { maxSteps := 1000000 }) (disch := (first | omega | decide | assumption)) only [ltm_s, ok_n, rd_i, rd_j, fd_i, fd_j, wr_i, wr_j, fw_i, fw_j, ci_s, cj_s, cv_s, dv_n, dw_n, rt_1, rt_b, rt_20, rt_21, okb_0, okb_1, okb_b, nar_0, nar_1, nar_b, i_0, i_1, j_0, j_1, i_lit, j_lit, i_n, iI_add, iI_sub, iI_mul, iI_neg, jI_add, jI_sub, jI_mul, jI_neg, sh_1, an_1, xo_1, di_p, dj_p, i_64A, i_64, j_32, lq_ge, lq_lt, lq_le, lq_gt, lq_eq, i_lt, i_le, i_eq, j_eq, iI_A, jI_J, iI_b, iI_v, jI_v, ↓reduceIte, ite_true, ite_false, Int.reduceEq, Int.reduceLT, Int.reduceLE, Int.reduceAdd, Int.reduceSub, Int.reduceMul, Int.reduceNeg, not_true_eq_false, not_false_eq_true, A_Wn, A_WA, A_Wb, A_Ws, A_Wo, A_X, J_W, J_Xn, J_XJ, J_Xs, J_Xo, x26', mx', ms', eD', q4, g2.symm, c10, Int.add_sub_cancel, mc]
  have r11 : ∀ i : Int, 0 ≤ i → ¬ i = (nD M) → A M2 11 i = A M 11 i := fun i i0 i1 => by
    rw [e2]; simp (config := { maxSteps := 1000000 }) (disch := (first | omega | decide | assumption)) only [ltm_s, ok_n, rd_i, rd_j, fd_i, fd_j, wr_i, wr_j, fw_i, fw_j, ci_s, cj_s, cv_s, dv_n, dw_n, rt_1, rt_b, rt_20, rt_21, okb_0, okb_1, okb_b, nar_0, nar_1, nar_b, i_0, i_1, j_0, j_1, i_lit, j_lit, i_n, iI_add, iI_sub, iI_mul, iI_neg, jI_add, jI_sub, jI_mul, jI_neg, sh_1, an_1, xo_1, di_p, dj_p, i_64A, i_64, j_32, lq_ge, lq_lt, lq_le, lq_gt, lq_eq, i_lt, i_le, i_eq, j_eq, iI_A, jI_J, iI_b, iI_v, jI_v, ↓reduceIte, ite_true, ite_false, Int.reduceEq, Int.reduceLT, Int.reduceLE, Int.reduceAdd, Int.reduceSub, Int.reduceMul, Int.reduceNeg, not_true_eq_false, not_false_eq_true, A_Wn, A_WA, A_Wb, A_Ws, A_Wo, A_X, J_W, J_Xn, J_XJ, J_Xs, J_Xo]
  have s11 : A M2 11 (nD M) = w := by
    rw [e2]; simp (config := { maxSteps := 1000000 }) (disch := (first | omega | decide | assumption)) only [ltm_s, ok_n, rd_i, rd_j, fd_i, fd_j, wr_i, wr_j, fw_i, fw_j, ci_s, cj_s, cv_s, dv_n, dw_n, rt_1, rt_b, rt_20, rt_21, okb_0, okb_1, okb_b, nar_0, nar_1, nar_b, i_0, i_1, j_0, j_1, i_lit, j_lit, i_n, iI_add, iI_sub, iI_mul, iI_neg, jI_add, jI_sub, jI_mul, jI_neg, sh_1, an_1, xo_1, di_p, dj_p, i_64A, i_64, j_32, lq_ge, lq_lt, lq_le, lq_gt, lq_eq, i_lt, i_le, i_eq, j_eq, iI_A, jI_J, iI_b, iI_v, jI_v, ↓reduceIte, ite_true, ite_false, Int.reduceEq, Int.reduceLT, Int.reduceLE, Int.reduceAdd, Int.reduceSub, Int.reduceMul, Int.reduceNeg, not_true_eq_false, not_false_eq_true, A_Wn, A_WA, A_Wb, A_Ws, A_Wo, A_X, J_W, J_Xn, J_XJ, J_Xs, J_Xo]
  have r12 : ∀ i : Int, 0 ≤ i → ¬ i = (nD M) → A M2 12 i = A M 12 i := fun i i0 i1 => by
    rw [e2]; simp (config := { maxSteps := 1000000 }) (disch := (first | omega | decide | assumption)) only [ltm_s, ok_n, rd_i, rd_j, fd_i, fd_j, wr_i, wr_j, fw_i, fw_j, ci_s, cj_s, cv_s, dv_n, dw_n, rt_1, rt_b, rt_20, rt_21, okb_0, okb_1, okb_b, nar_0, nar_1, nar_b, i_0, i_1, j_0, j_1, i_lit, j_lit, i_n, iI_add, iI_sub, iI_mul, iI_neg, jI_add, jI_sub, jI_mul, jI_neg, sh_1, an_1, xo_1, di_p, dj_p, i_64A, i_64, j_32, lq_ge, lq_lt, lq_le, lq_gt, lq_eq, i_lt, i_le, i_eq, j_eq, iI_A, jI_J, iI_b, iI_v, jI_v, ↓reduceIte, ite_true, ite_false, Int.reduceEq, Int.reduceLT, Int.reduceLE, Int.reduceAdd, Int.reduceSub, Int.reduceMul, Int.reduceNeg, not_true_eq_false, not_false_eq_true, A_Wn, A_WA, A_Wb, A_Ws, A_Wo, A_X, J_W, J_Xn, J_XJ, J_Xs, J_Xo]
  have s12 : A M2 12 (nD M) = x := by
    rw [e2]; simp (config := { maxSteps := 1000000 }) (disch := (first | omega | decide | assumption)) only [ltm_s, ok_n, rd_i, rd_j, fd_i, fd_j, wr_i, wr_j, fw_i, fw_j, ci_s, cj_s, cv_s, dv_n, dw_n, rt_1, rt_b, rt_20, rt_21, okb_0, okb_1, okb_b, nar_0, nar_1, nar_b, i_0, i_1, j_0, j_1, i_lit, j_lit, i_n, iI_add, iI_sub, iI_mul, iI_neg, jI_add, jI_sub, jI_mul, jI_neg, sh_1, an_1, xo_1, di_p, dj_p, i_64A, i_64, j_32, lq_ge, lq_lt, lq_le, lq_gt, lq_eq, i_lt, i_le, i_eq, j_eq, iI_A, jI_J, iI_b, iI_v, jI_v, ↓reduceIte, ite_true, ite_false, Int.reduceEq, Int.reduceLT, Int.reduceLE, Int.reduceAdd, Int.reduceSub, Int.reduceMul, Int.reduceNeg, not_true_eq_false, not_false_eq_true, A_Wn, A_WA, A_Wb, A_Ws, A_Wo, A_X, J_W, J_Xn, J_XJ, J_Xs, J_Xo]
  have r13 : ∀ i : Int, 0 ≤ i → ¬ i = (nD M) → A M2 13 i = A M 13 i := fun i i0 i1 => by
    rw [e2]; simp (config := { maxSteps := 1000000 }) (disch := (first | omega | decide | assumption)) only [ltm_s, ok_n, rd_i, rd_j, fd_i, fd_j, wr_i, wr_j, fw_i, fw_j, ci_s, cj_s, cv_s, dv_n, dw_n, rt_1, rt_b, rt_20, rt_21, okb_0, okb_1, okb_b, nar_0, nar_1, nar_b, i_0, i_1, j_0, j_1, i_lit, j_lit, i_n, iI_add, iI_sub, iI_mul, iI_neg, jI_add, jI_sub, jI_mul, jI_neg, sh_1, an_1, xo_1, di_p, dj_p, i_64A, i_64, j_32, lq_ge, lq_lt, lq_le, lq_gt, lq_eq, i_lt, i_le, i_eq, j_eq, iI_A, jI_J, iI_b, iI_v, jI_v, ↓reduceIte, ite_true, ite_false, Int.reduceEq, Int.reduceLT, Int.reduceLE, Int.reduceAdd, Int.reduceSub, Int.reduceMul, Int.reduceNeg, not_true_eq_false, not_false_eq_true, A_Wn, A_WA, A_Wb, A_Ws, A_Wo, A_X, J_W, J_Xn, J_XJ, J_Xs, J_Xo]
  have s13 : A M2 13 (nD M) = s := by
    rw [e2]; simp (config := { maxSteps := 1000000 }) (disch := (first | omega | decide | assumption)) only [ltm_s, ok_n, rd_i, rd_j, fd_i, fd_j, wr_i, wr_j, fw_i, fw_j, ci_s, cj_s, cv_s, dv_n, dw_n, rt_1, rt_b, rt_20, rt_21, okb_0, okb_1, okb_b, nar_0, nar_1, nar_b, i_0, i_1, j_0, j_1, i_lit, j_lit, i_n, iI_add, iI_sub, iI_mul, iI_neg, jI_add, jI_sub, jI_mul, jI_neg, sh_1, an_1, xo_1, di_p, dj_p, i_64A, i_64, j_32, lq_ge, lq_lt, lq_le, lq_gt, lq_eq, i_lt, i_le, i_eq, j_eq, iI_A, jI_J, iI_b, iI_v, jI_v, ↓reduceIte, ite_true, ite_false, Int.reduceEq, Int.reduceLT, Int.reduceLE, Int.reduceAdd, Int.reduceSub, Int.reduceMul, Int.reduceNeg, not_true_eq_false, not_false_eq_true, A_Wn, A_WA, A_Wb, A_Ws, A_Wo, A_X, J_W, J_Xn, J_XJ, J_Xs, J_Xo]
  have r228 : ∀ i : Int, 0 ≤ i → ¬ i = (nD M) → A M2 228 i = A M 228 i := fun i i0 i1 => by
    rw [e2]; simp (config := { maxSteps := 1000000 }) (disch := (first | omega | decide | assumption)) only [ltm_s, ok_n, rd_i, rd_j, fd_i, fd_j, wr_i, wr_j, fw_i, fw_j, ci_s, cj_s, cv_s, dv_n, dw_n, rt_1, rt_b, rt_20, rt_21, okb_0, okb_1, okb_b, nar_0, nar_1, nar_b, i_0, i_1, j_0, j_1, i_lit, j_lit, i_n, iI_add, iI_sub, iI_mul, iI_neg, jI_add, jI_sub, jI_mul, jI_neg, sh_1, an_1, xo_1, di_p, dj_p, i_64A, i_64, j_32, lq_ge, lq_lt, lq_le, lq_gt, lq_eq, i_lt, i_le, i_eq, j_eq, iI_A, jI_J, iI_b, iI_v, jI_v, ↓reduceIte, ite_true, ite_false, Int.reduceEq, Int.reduceLT, Int.reduceLE, Int.reduceAdd, Int.reduceSub, Int.reduceMul, Int.reduceNeg, not_true_eq_false, not_false_eq_true, A_Wn, A_WA, A_Wb, A_Ws, A_Wo, A_X, J_W, J_Xn, J_XJ, J_Xs, J_Xo]
  have s228 : A M2 228 (nD M) = w := by
    rw [e2]; simp (config := { maxSteps := 1000000 }) (disch := (first | omega | decide | assumption)) only [ltm_s, ok_n, rd_i, rd_j, fd_i, fd_j, wr_i, wr_j, fw_i, fw_j, ci_s, cj_s, cv_s, dv_n, dw_n, rt_1, rt_b, rt_20, rt_21, okb_0, okb_1, okb_b, nar_0, nar_1, nar_b, i_0, i_1, j_0, j_1, i_lit, j_lit, i_n, iI_add, iI_sub, iI_mul, iI_neg, jI_add, jI_sub, jI_mul, jI_neg, sh_1, an_1, xo_1, di_p, dj_p, i_64A, i_64, j_32, lq_ge, lq_lt, lq_le, lq_gt, lq_eq, i_lt, i_le, i_eq, j_eq, iI_A, jI_J, iI_b, iI_v, jI_v, ↓reduceIte, ite_true, ite_false, Int.reduceEq, Int.reduceLT, Int.reduceLE, Int.reduceAdd, Int.reduceSub, Int.reduceMul, Int.reduceNeg, not_true_eq_false, not_false_eq_true, A_Wn, A_WA, A_Wb, A_Ws, A_Wo, A_X, J_W, J_Xn, J_XJ, J_Xs, J_Xo]
  have r229 : ∀ i : Int, 0 ≤ i → ¬ i = (nD M) → A M2 229 i = A M 229 i := fun i i0 i1 => by
    rw [e2]; simp (config := { maxSteps := 1000000 }) (disch := (first | omega | decide | assumption)) only [ltm_s, ok_n, rd_i, rd_j, fd_i, fd_j, wr_i, wr_j, fw_i, fw_j, ci_s, cj_s, cv_s, dv_n, dw_n, rt_1, rt_b, rt_20, rt_21, okb_0, okb_1, okb_b, nar_0, nar_1, nar_b, i_0, i_1, j_0, j_1, i_lit, j_lit, i_n, iI_add, iI_sub, iI_mul, iI_neg, jI_add, jI_sub, jI_mul, jI_neg, sh_1, an_1, xo_1, di_p, dj_p, i_64A, i_64, j_32, lq_ge, lq_lt, lq_le, lq_gt, lq_eq, i_lt, i_le, i_eq, j_eq, iI_A, jI_J, iI_b, iI_v, jI_v, ↓reduceIte, ite_true, ite_false, Int.reduceEq, Int.reduceLT, Int.reduceLE, Int.reduceAdd, Int.reduceSub, Int.reduceMul, Int.reduceNeg, not_true_eq_false, not_false_eq_true, A_Wn, A_WA, A_Wb, A_Ws, A_Wo, A_X, J_W, J_Xn, J_XJ, J_Xs, J_Xo]
  have s229 : A M2 229 (nD M) = x := by
    rw [e2]; simp (config := { maxSteps := 1000000 }) (disch := (first | omega | decide | assumption)) only [ltm_s, ok_n, rd_i, rd_j, fd_i, fd_j, wr_i, wr_j, fw_i, fw_j, ci_s, cj_s, cv_s, dv_n, dw_n, rt_1, rt_b, rt_20, rt_21, okb_0, okb_1, okb_b, nar_0, nar_1, nar_b, i_0, i_1, j_0, j_1, i_lit, j_lit, i_n, iI_add, iI_sub, iI_mul, iI_neg, jI_add, jI_sub, jI_mul, jI_neg, sh_1, an_1, xo_1, di_p, dj_p, i_64A, i_64, j_32, lq_ge, lq_lt, lq_le, lq_gt, lq_eq, i_lt, i_le, i_eq, j_eq, iI_A, jI_J, iI_b, iI_v, jI_v, ↓reduceIte, ite_true, ite_false, Int.reduceEq, Int.reduceLT, Int.reduceLE, Int.reduceAdd, Int.reduceSub, Int.reduceMul, Int.reduceNeg, not_true_eq_false, not_false_eq_true, A_Wn, A_WA, A_Wb, A_Ws, A_Wo, A_X, J_W, J_Xn, J_XJ, J_Xs, J_Xo]
  have r230 : ∀ i : Int, 0 ≤ i → ¬ i = (nD M) → A M2 230 i = A M 230 i := fun i i0 i1 => by
    rw [e2]; simp (config := { maxSteps := 1000000 }) (disch := (first | omega | decide | assumption)) only [ltm_s, ok_n, rd_i, rd_j, fd_i, fd_j, wr_i, wr_j, fw_i, fw_j, ci_s, cj_s, cv_s, dv_n, dw_n, rt_1, rt_b, rt_20, rt_21, okb_0, okb_1, okb_b, nar_0, nar_1, nar_b, i_0, i_1, j_0, j_1, i_lit, j_lit, i_n, iI_add, iI_sub, iI_mul, iI_neg, jI_add, jI_sub, jI_mul, jI_neg, sh_1, an_1, xo_1, di_p, dj_p, i_64A, i_64, j_32, lq_ge, lq_lt, lq_le, lq_gt, lq_eq, i_lt, i_le, i_eq, j_eq, iI_A, jI_J, iI_b, iI_v, jI_v, ↓reduceIte, ite_true, ite_false, Int.reduceEq, Int.reduceLT, Int.reduceLE, Int.reduceAdd, Int.reduceSub, Int.reduceMul, Int.reduceNeg, not_true_eq_false, not_false_eq_true, A_Wn, A_WA, A_Wb, A_Ws, A_Wo, A_X, J_W, J_Xn, J_XJ, J_Xs, J_Xo]
  have s230 : A M2 230 (nD M) = s := by
    rw [e2]; simp (config := { maxSteps := 1000000 }) (disch := (first | omega | decide | assumption)) only [ltm_s, ok_n, rd_i, rd_j, fd_i, fd_j, wr_i, wr_j, fw_i, fw_j, ci_s, cj_s, cv_s, dv_n, dw_n, rt_1, rt_b, rt_20, rt_21, okb_0, okb_1, okb_b, nar_0, nar_1, nar_b, i_0, i_1, j_0, j_1, i_lit, j_lit, i_n, iI_add, iI_sub, iI_mul, iI_neg, jI_add, jI_sub, jI_mul, jI_neg, sh_1, an_1, xo_1, di_p, dj_p, i_64A, i_64, j_32, lq_ge, lq_lt, lq_le, lq_gt, lq_eq, i_lt, i_le, i_eq, j_eq, iI_A, jI_J, iI_b, iI_v, jI_v, ↓reduceIte, ite_true, ite_false, Int.reduceEq, Int.reduceLT, Int.reduceLE, Int.reduceAdd, Int.reduceSub, Int.reduceMul, Int.reduceNeg, not_true_eq_false, not_false_eq_true, A_Wn, A_WA, A_Wb, A_Ws, A_Wo, A_X, J_W, J_Xn, J_XJ, J_Xs, J_Xo]
  have r14 : ∀ i : Int, 0 ≤ i → ¬ i = (A M 219 31) → A M2 14 i = A M 14 i := fun i i0 i1 => by
    rw [e2]; simp (config := { maxSteps := 1000000 }) (disch := (first | omega | decide | assumption)) only [ltm_s, ok_n, rd_i, rd_j, fd_i, fd_j, wr_i, wr_j, fw_i, fw_j, ci_s, cj_s, cv_s, dv_n, dw_n, rt_1, rt_b, rt_20, rt_21, okb_0, okb_1, okb_b, nar_0, nar_1, nar_b, i_0, i_1, j_0, j_1, i_lit, j_lit, i_n, iI_add, iI_sub, iI_mul, iI_neg, jI_add, jI_sub, jI_mul, jI_neg, sh_1, an_1, xo_1, di_p, dj_p, i_64A, i_64, j_32, lq_ge, lq_lt, lq_le, lq_gt, lq_eq, i_lt, i_le, i_eq, j_eq, iI_A, jI_J, iI_b, iI_v, jI_v, ↓reduceIte, ite_true, ite_false, Int.reduceEq, Int.reduceLT, Int.reduceLE, Int.reduceAdd, Int.reduceSub, Int.reduceMul, Int.reduceNeg, not_true_eq_false, not_false_eq_true, A_Wn, A_WA, A_Wb, A_Ws, A_Wo, A_X, J_W, J_Xn, J_XJ, J_Xs, J_Xo]
  have s14 : A M2 14 (A M 219 31) = 2 := by
    rw [e2]; simp (config := { maxSteps := 1000000 }) (disch := (first | omega | decide | assumption)) only [ltm_s, ok_n, rd_i, rd_j, fd_i, fd_j, wr_i, wr_j, fw_i, fw_j, ci_s, cj_s, cv_s, dv_n, dw_n, rt_1, rt_b, rt_20, rt_21, okb_0, okb_1, okb_b, nar_0, nar_1, nar_b, i_0, i_1, j_0, j_1, i_lit, j_lit, i_n, iI_add, iI_sub, iI_mul, iI_neg, jI_add, jI_sub, jI_mul, jI_neg, sh_1, an_1, xo_1, di_p, dj_p, i_64A, i_64, j_32, lq_ge, lq_lt, lq_le, lq_gt, lq_eq, i_lt, i_le, i_eq, j_eq, iI_A, jI_J, iI_b, iI_v, jI_v, ↓reduceIte, ite_true, ite_false, Int.reduceEq, Int.reduceLT, Int.reduceLE, Int.reduceAdd, Int.reduceSub, Int.reduceMul, Int.reduceNeg, not_true_eq_false, not_false_eq_true, A_Wn, A_WA, A_Wb, A_Ws, A_Wo, A_X, J_W, J_Xn, J_XJ, J_Xs, J_Xo]
  have r15 : ∀ i : Int, 0 ≤ i → ¬ i = (A M 219 31) → A M2 15 i = A M 15 i := fun i i0 i1 => by
    rw [e2]; simp (config := { maxSteps := 1000000 }) (disch := (first | omega | decide | assumption)) only [ltm_s, ok_n, rd_i, rd_j, fd_i, fd_j, wr_i, wr_j, fw_i, fw_j, ci_s, cj_s, cv_s, dv_n, dw_n, rt_1, rt_b, rt_20, rt_21, okb_0, okb_1, okb_b, nar_0, nar_1, nar_b, i_0, i_1, j_0, j_1, i_lit, j_lit, i_n, iI_add, iI_sub, iI_mul, iI_neg, jI_add, jI_sub, jI_mul, jI_neg, sh_1, an_1, xo_1, di_p, dj_p, i_64A, i_64, j_32, lq_ge, lq_lt, lq_le, lq_gt, lq_eq, i_lt, i_le, i_eq, j_eq, iI_A, jI_J, iI_b, iI_v, jI_v, ↓reduceIte, ite_true, ite_false, Int.reduceEq, Int.reduceLT, Int.reduceLE, Int.reduceAdd, Int.reduceSub, Int.reduceMul, Int.reduceNeg, not_true_eq_false, not_false_eq_true, A_Wn, A_WA, A_Wb, A_Ws, A_Wo, A_X, J_W, J_Xn, J_XJ, J_Xs, J_Xo]
  have s15 : A M2 15 (A M 219 31) = nD M := by
    rw [e2]; simp (config := { maxSteps := 1000000 }) (disch := (first | omega | decide | assumption)) only [ltm_s, ok_n, rd_i, rd_j, fd_i, fd_j, wr_i, wr_j, fw_i, fw_j, ci_s, cj_s, cv_s, dv_n, dw_n, rt_1, rt_b, rt_20, rt_21, okb_0, okb_1, okb_b, nar_0, nar_1, nar_b, i_0, i_1, j_0, j_1, i_lit, j_lit, i_n, iI_add, iI_sub, iI_mul, iI_neg, jI_add, jI_sub, jI_mul, jI_neg, sh_1, an_1, xo_1, di_p, dj_p, i_64A, i_64, j_32, lq_ge, lq_lt, lq_le, lq_gt, lq_eq, i_lt, i_le, i_eq, j_eq, iI_A, jI_J, iI_b, iI_v, jI_v, ↓reduceIte, ite_true, ite_false, Int.reduceEq, Int.reduceLT, Int.reduceLE, Int.reduceAdd, Int.reduceSub, Int.reduceMul, Int.reduceNeg, not_true_eq_false, not_false_eq_true, A_Wn, A_WA, A_Wb, A_Ws, A_Wo, A_X, J_W, J_Xn, J_XJ, J_Xs, J_Xo]
  have r244 : ∀ i : Int, 0 ≤ i → ¬ i = (A M 219 31) → A M2 244 i = A M 244 i := fun i i0 i1 => by
    rw [e2]; simp (config := { maxSteps := 1000000 }) (disch := (first | omega | decide | assumption)) only [ltm_s, ok_n, rd_i, rd_j, fd_i, fd_j, wr_i, wr_j, fw_i, fw_j, ci_s, cj_s, cv_s, dv_n, dw_n, rt_1, rt_b, rt_20, rt_21, okb_0, okb_1, okb_b, nar_0, nar_1, nar_b, i_0, i_1, j_0, j_1, i_lit, j_lit, i_n, iI_add, iI_sub, iI_mul, iI_neg, jI_add, jI_sub, jI_mul, jI_neg, sh_1, an_1, xo_1, di_p, dj_p, i_64A, i_64, j_32, lq_ge, lq_lt, lq_le, lq_gt, lq_eq, i_lt, i_le, i_eq, j_eq, iI_A, jI_J, iI_b, iI_v, jI_v, ↓reduceIte, ite_true, ite_false, Int.reduceEq, Int.reduceLT, Int.reduceLE, Int.reduceAdd, Int.reduceSub, Int.reduceMul, Int.reduceNeg, not_true_eq_false, not_false_eq_true, A_Wn, A_WA, A_Wb, A_Ws, A_Wo, A_X, J_W, J_Xn, J_XJ, J_Xs, J_Xo]
  have s244 : A M2 244 (A M 219 31) = 2 := by
    rw [e2]; simp (config := { maxSteps := 1000000 }) (disch := (first | omega | decide | assumption)) only [ltm_s, ok_n, rd_i, rd_j, fd_i, fd_j, wr_i, wr_j, fw_i, fw_j, ci_s, cj_s, cv_s, dv_n, dw_n, rt_1, rt_b, rt_20, rt_21, okb_0, okb_1, okb_b, nar_0, nar_1, nar_b, i_0, i_1, j_0, j_1, i_lit, j_lit, i_n, iI_add, iI_sub, iI_mul, iI_neg, jI_add, jI_sub, jI_mul, jI_neg, sh_1, an_1, xo_1, di_p, dj_p, i_64A, i_64, j_32, lq_ge, lq_lt, lq_le, lq_gt, lq_eq, i_lt, i_le, i_eq, j_eq, iI_A, jI_J, iI_b, iI_v, jI_v, ↓reduceIte, ite_true, ite_false, Int.reduceEq, Int.reduceLT, Int.reduceLE, Int.reduceAdd, Int.reduceSub, Int.reduceMul, Int.reduceNeg, not_true_eq_false, not_false_eq_true, A_Wn, A_WA, A_Wb, A_Ws, A_Wo, A_X, J_W, J_Xn, J_XJ, J_Xs, J_Xo]
  have r245 : ∀ i : Int, 0 ≤ i → ¬ i = (A M 219 31) → A M2 245 i = A M 245 i := fun i i0 i1 => by
    rw [e2]; simp (config := { maxSteps := 1000000 }) (disch := (first | omega | decide | assumption)) only [ltm_s, ok_n, rd_i, rd_j, fd_i, fd_j, wr_i, wr_j, fw_i, fw_j, ci_s, cj_s, cv_s, dv_n, dw_n, rt_1, rt_b, rt_20, rt_21, okb_0, okb_1, okb_b, nar_0, nar_1, nar_b, i_0, i_1, j_0, j_1, i_lit, j_lit, i_n, iI_add, iI_sub, iI_mul, iI_neg, jI_add, jI_sub, jI_mul, jI_neg, sh_1, an_1, xo_1, di_p, dj_p, i_64A, i_64, j_32, lq_ge, lq_lt, lq_le, lq_gt, lq_eq, i_lt, i_le, i_eq, j_eq, iI_A, jI_J, iI_b, iI_v, jI_v, ↓reduceIte, ite_true, ite_false, Int.reduceEq, Int.reduceLT, Int.reduceLE, Int.reduceAdd, Int.reduceSub, Int.reduceMul, Int.reduceNeg, not_true_eq_false, not_false_eq_true, A_Wn, A_WA, A_Wb, A_Ws, A_Wo, A_X, J_W, J_Xn, J_XJ, J_Xs, J_Xo]
  have s245 : A M2 245 (A M 219 31) = nD M := by
    rw [e2]; simp (config := { maxSteps := 1000000 }) (disch := (first | omega | decide | assumption)) only [ltm_s, ok_n, rd_i, rd_j, fd_i, fd_j, wr_i, wr_j, fw_i, fw_j, ci_s, cj_s, cv_s, dv_n, dw_n, rt_1, rt_b, rt_20, rt_21, okb_0, okb_1, okb_b, nar_0, nar_1, nar_b, i_0, i_1, j_0, j_1, i_lit, j_lit, i_n, iI_add, iI_sub, iI_mul, iI_neg, jI_add, jI_sub, jI_mul, jI_neg, sh_1, an_1, xo_1, di_p, dj_p, i_64A, i_64, j_32, lq_ge, lq_lt, lq_le, lq_gt, lq_eq, i_lt, i_le, i_eq, j_eq, iI_A, jI_J, iI_b, iI_v, jI_v, ↓reduceIte, ite_true, ite_false, Int.reduceEq, Int.reduceLT, Int.reduceLE, Int.reduceAdd, Int.reduceSub, Int.reduceMul, Int.reduceNeg, not_true_eq_false, not_false_eq_true, A_Wn, A_WA, A_Wb, A_Ws, A_Wo, A_X, J_W, J_Xn, J_XJ, J_Xs, J_Xo]
  have s10 : nD M2 = nD M + 1 := by
    show A M2 219 10 = _
    rw [e2]; simp (config := { maxSteps := 1000000 }) (disch := (first | omega | decide | assumption)) only [ltm_s, ok_n, rd_i, rd_j, fd_i, fd_j, wr_i, wr_j, fw_i, fw_j, ci_s, cj_s, cv_s, dv_n, dw_n, rt_1, rt_b, rt_20, rt_21, okb_0, okb_1, okb_b, nar_0, nar_1, nar_b, i_0, i_1, j_0, j_1, i_lit, j_lit, i_n, iI_add, iI_sub, iI_mul, iI_neg, jI_add, jI_sub, jI_mul, jI_neg, sh_1, an_1, xo_1, di_p, dj_p, i_64A, i_64, j_32, lq_ge, lq_lt, lq_le, lq_gt, lq_eq, i_lt, i_le, i_eq, j_eq, iI_A, jI_J, iI_b, iI_v, jI_v, ↓reduceIte, ite_true, ite_false, Int.reduceEq, Int.reduceLT, Int.reduceLE, Int.reduceAdd, Int.reduceSub, Int.reduceMul, Int.reduceNeg, not_true_eq_false, not_false_eq_true, A_Wn, A_WA, A_Wb, A_Ws, A_Wo, A_X, J_W, J_Xn, J_XJ, J_Xs, J_Xo]
  have s114 : A M2 1 14 = nD M + 1 := by
    rw [e2]; simp (config := { maxSteps := 1000000 }) (disch := (first | omega | decide | assumption)) only [ltm_s, ok_n, rd_i, rd_j, fd_i, fd_j, wr_i, wr_j, fw_i, fw_j, ci_s, cj_s, cv_s, dv_n, dw_n, rt_1, rt_b, rt_20, rt_21, okb_0, okb_1, okb_b, nar_0, nar_1, nar_b, i_0, i_1, j_0, j_1, i_lit, j_lit, i_n, iI_add, iI_sub, iI_mul, iI_neg, jI_add, jI_sub, jI_mul, jI_neg, sh_1, an_1, xo_1, di_p, dj_p, i_64A, i_64, j_32, lq_ge, lq_lt, lq_le, lq_gt, lq_eq, i_lt, i_le, i_eq, j_eq, iI_A, jI_J, iI_b, iI_v, jI_v, ↓reduceIte, ite_true, ite_false, Int.reduceEq, Int.reduceLT, Int.reduceLE, Int.reduceAdd, Int.reduceSub, Int.reduceMul, Int.reduceNeg, not_true_eq_false, not_false_eq_true, A_Wn, A_WA, A_Wb, A_Ws, A_Wo, A_X, J_W, J_Xn, J_XJ, J_Xs, J_Xo]
  have eW : nW M2 = nW M := c.f (a := 219) (z := 4) rfl
  have eJ : nJ M2 = nJ M := c.f (a := 219) (z := 0) rfl
  have eF : ∀ z, ft M2 z = ft M z := fun z => c.a (a := 226) rfl
  refine ⟨c.i1 rfl h1, c.i2 rfl h2, c.i3 rfl h3, ?_, c.i5 rfl h5, c.i6 rfl h6, c.i7 rfl h7, c.i8 rfl h8, c.i9 rfl h9, ?_, c.i11 rfl h11, c.i12 rfl h12, c.i13 rfl h13, c.i14 rfl h14, c.i15 rfl h15, c.i16 rfl h16, ?_, c.i18 rfl h18, c.i19 rfl h19, c.imk rfl hm, c.itd rfl ht⟩
  · refine ⟨by rw [s10]; omega, by rw [s10, s114], fun d d0 d1 => ?_⟩
    rw [s10] at d1
    rw [eW, eF]
    by_cases q : d = nD M
    · rw [q, s228, s229, s230, s11, s12, s13]
      exact ⟨by omega, by omega, by omega, rfl, rfl, rfl⟩
    · rw [r228 d d0 q, r229 d d0 q, r230 d d0 q, r11 d d0 q, r12 d d0 q, r13 d d0 q]
      exact a3 d d0 (by omega)
  · refine I10_up h10 (s := 2) (k := nD M) (by omega) (by omega) (by omega) (by omega) ?_ ?_ r14 r15 r244 r245 s14 s15 s244 s245 (Or.inr (Or.inr ⟨rfl, by omega, by omega⟩))
    · rw [e2]; simp (config := { maxSteps := 1000000 }) (disch := (first | omega | decide | assumption)) only [ltm_s, ok_n, rd_i, rd_j, fd_i, fd_j, wr_i, wr_j, fw_i, fw_j, ci_s, cj_s, cv_s, dv_n, dw_n, rt_1, rt_b, rt_20, rt_21, okb_0, okb_1, okb_b, nar_0, nar_1, nar_b, i_0, i_1, j_0, j_1, i_lit, j_lit, i_n, iI_add, iI_sub, iI_mul, iI_neg, jI_add, jI_sub, jI_mul, jI_neg, sh_1, an_1, xo_1, di_p, dj_p, i_64A, i_64, j_32, lq_ge, lq_lt, lq_le, lq_gt, lq_eq, i_lt, i_le, i_eq, j_eq, iI_A, jI_J, iI_b, iI_v, jI_v, ↓reduceIte, ite_true, ite_false, Int.reduceEq, Int.reduceLT, Int.reduceLE, Int.reduceAdd, Int.reduceSub, Int.reduceMul, Int.reduceNeg, not_true_eq_false, not_false_eq_true, A_Wn, A_WA, A_Wb, A_Ws, A_Wo, A_X, J_W, J_Xn, J_XJ, J_Xs, J_Xo]
    · rw [e2]; simp (config := { maxSteps := 1000000 }) (disch := (first | omega | decide | assumption)) only [ltm_s, ok_n, rd_i, rd_j, fd_i, fd_j, wr_i, wr_j, fw_i, fw_j, ci_s, cj_s, cv_s, dv_n, dw_n, rt_1, rt_b, rt_20, rt_21, okb_0, okb_1, okb_b, nar_0, nar_1, nar_b, i_0, i_1, j_0, j_1, i_lit, j_lit, i_n, iI_add, iI_sub, iI_mul, iI_neg, jI_add, jI_sub, jI_mul, jI_neg, sh_1, an_1, xo_1, di_p, dj_p, i_64A, i_64, j_32, lq_ge, lq_lt, lq_le, lq_gt, lq_eq, i_lt, i_le, i_eq, j_eq, iI_A, jI_J, iI_b, iI_v, jI_v, ↓reduceIte, ite_true, ite_false, Int.reduceEq, Int.reduceLT, Int.reduceLE, Int.reduceAdd, Int.reduceSub, Int.reduceMul, Int.reduceNeg, not_true_eq_false, not_false_eq_true, A_Wn, A_WA, A_Wb, A_Ws, A_Wo, A_X, J_W, J_Xn, J_XJ, J_Xs, J_Xo]
  · exact c.i17m rfl (by omega) (by omega) (fun e f _ _ _ _ hf => c.tr (I := fun N => fol N e f) [224, 225] [] (fun _ => rfl) rfl hf) h17
end Dr2
