/-! JUNCTION, by both -/
/-- the junctions and things of the one side are those of the other -/
def Sj (N N2 : am_M) : Prop := (0 ≤ nJ N2 ∧ nJ N2 ≤ 24) ∧ A N 1 3 = nJ N2 ∧ (∀ j : Int, 0 ≤ j → j < nJ N2 → (0 ≤ px N2 j ∧ px N2 j ≤ 99) ∧ (0 ≤ py N2 j ∧ py N2 j ≤ 99) ∧ (rg N2 j = 0 ∨ rg N2 j = 1) ∧ A N 2 j = px N2 j ∧ A N 3 j = py N2 j ∧ A N 4 j = rg N2 j) ∧ (∀ i j : Int, 0 ≤ i → i < nJ N2 → 0 ≤ j → j < nJ N2 → px N2 i = px N2 j → py N2 i = py N2 j → i = j) ∧
  A N2 219 31 = nJ N2 + nW N2 + nD N2 ∧ (0 ≤ nW N2 ∧ nW N2 ≤ 40) ∧ (0 ≤ nD N2 ∧ nD N2 ≤ 8) ∧ A N 1 17 = A N2 219 31 ∧ ∀ t : Int, 0 ≤ t → t < A N2 219 31 → A N 14 t = A N2 244 t ∧ A N 15 t = A N2 245 t ∧ (A N2 244 t = 0 ∧ (0 ≤ A N2 245 t ∧ A N2 245 t < nJ N2) ∨ A N2 244 t = 1 ∧ (0 ≤ A N2 245 t ∧ A N2 245 t < nW N2) ∨ A N2 244 t = 2 ∧ (0 ≤ A N2 245 t ∧ A N2 245 t < nD N2))
/-- more junctions, the old ones where they were -/
def Gj (M M' : am_M) : Prop := nJ M ≤ nJ M' ∧ ∀ j : Int, 0 ≤ j → j < nJ M → px M' j = px M j ∧ py M' j = py M j
theorem Gj.refl (M : am_M) : Gj M M := ⟨Int.le_refl _, fun _ _ _ => ⟨rfl, rfl⟩⟩
theorem Gj.trans {M M' M2 : am_M} (h : Gj M M') (h2 : Gj M' M2) : Gj M M2 := ⟨Int.le_trans h.1 h2.1, fun j j0 j1 => by
  have a := h.2 j j0 j1
  have b := h2.2 j j0 (by have := h.1; omega)
  exact ⟨b.1.trans a.1, b.2.trans a.2⟩⟩
section Sjs
variable {N N' N2 N2' M M' : am_M} {g : am_G} {F : am_FT} {W : List Nat} {Q : List (Nat × Nat)}
theorem Sj.ofI (h1 : I1 M) (h10 : I10 M) (hw : 0 ≤ nW M ∧ nW M ≤ 40) (hd : 0 ≤ nD M ∧ nD M ≤ 8) : Sj M M := ⟨h1.1, h1.2.1, h1.2.2.1, h1.2.2.2, h10.1, hw, hd, h10.2.1, h10.2.2⟩
theorem Sj.i1 (h : Sj M M) : I1 M := ⟨h.1, h.2.1, h.2.2.1, h.2.2.2.1⟩
theorem Sj.i10 (h : Sj M M) : I10 M := ⟨h.2.2.2.2.1, h.2.2.2.2.2.2.2.1, h.2.2.2.2.2.2.2.2⟩
theorem Sj.ch1 (h : Sj N N2) (c : Ch W Q N N') (hc : okc [2, 3, 4, 14, 15] [(1, 3), (1, 17)] W Q = true) : Sj N' N2 := c.tr (I := fun X => Sj X N2) _ _ (fun _ => rfl) hc h
theorem Sj.ch2 (h : Sj N N2) (c : Ch W Q N2 N2') (hc : okc [220, 221, 222, 244, 245] [(219, 0), (219, 4), (219, 10), (219, 31)] W Q = true) : Sj N N2' := c.tr (I := fun X => Sj N X) _ _ (fun _ => rfl) hc h
theorem JS_u {c x y o r r2 : Int} {X Y X2 Y2 : Int → Int} (h : JS c x y o X Y r) (h2 : JS c x y o X2 Y2 r2) (he : ∀ i : Int, 0 ≤ i → i < c → X i = X2 i ∧ Y i = Y2 i) : r = r2 := by
  by_cases q : jok x y o
  · by_cases d : jdu c X Y x y
    · have d2 : jdu c X2 Y2 x y := by
        obtain ⟨i, i0, i1, i2, i3⟩ := d
        have := he i i0 i1
        exact ⟨i, i0, i1, by rw [← this.1]; exact i2, by rw [← this.2]; exact i3⟩
      rw [(h.2 q).1 d, (h2.2 q).1 d2]
    · have d2 : ¬ jdu c X2 Y2 x y := by
        rintro ⟨i, i0, i1, i2, i3⟩
        have := he i i0 i1
        exact d ⟨i, i0, i1, by rw [this.1]; exact i2, by rw [this.2]; exact i3⟩
      by_cases f : c = 24
      · rw [((h.2 q).2 d).1 f, ((h2.2 q).2 d2).1 f]
      · rw [((h.2 q).2 d).2 f, ((h2.2 q).2 d2).2 f]
  · rw [h.1 q, h2.1 q]
theorem JS_pos {c x y o r : Int} {X Y : Int → Int} (h : JS c x y o X Y r) (hr : 0 ≤ r) : r = c ∧ jok x y o ∧ ¬ jdu c X Y x y ∧ ¬ c = 24 := by
  by_cases q : jok x y o
  · by_cases d : jdu c X Y x y
    · have := (h.2 q).1 d; omega
    · by_cases f : c = 24
      · have := ((h.2 q).2 d).1 f; omega
      · exact ⟨((h.2 q).2 d).2 f, q, d, f⟩
  · have := h.1 q; omega
theorem jn_step (hF : F = am_F T0 g) (hg : GG g) (hS : Sj N N2) {x y o : Int} (x1 : -2147483648 ≤ x) (x2 : x < 2147483648) (y1 : -2147483648 ≤ y) (y2 : y < 2147483648) (o1 : -2147483648 ≤ o) (o2 : o < 2147483648) :
    ∃ (r : Int) (N' N2' : am_M), F 205 0 [.ref 0, .int (iI x), .int (iI y), .int (iI o)] [] N = some (some (.int (iI r)), N') ∧ F 124 0 [.ref 219, .int (iI x), .int (iI y), .int (iI o)] [] N2 = some (some (.int (iI r)), N2') ∧ Sj N' N2' ∧ (-4 ≤ r ∧ r < 24) ∧ Ch [2, 3, 4, 14, 15] [(1, 3), (1, 17)] N N' ∧ Ch [220, 221, 222, 244, 245] [(219, 0), (219, 31)] N2 N2' ∧ Gj N2 N2' := by
  have hS' := hS
  obtain ⟨a1, a2, a3, a4, a5, a6, a7, a8, a9⟩ := hS
  have eJ : A N2 219 0 = nJ N2 := rfl
  obtain ⟨r, N', p1, p2, p3, p4⟩ := c_junction hF hg (N := N) x1 x2 y1 y2 o1 o2 (by omega) (by omega)
  obtain ⟨r2, N2', q1, q2, q3, q4⟩ := m_junction hF hg (N := N2) x1 x2 y1 y2 o1 o2 (by omega) (by omega)
  rw [a2] at p2
  rw [eJ] at q2
  have e := JS_u p2 q2 (fun i i0 i1 => ⟨(a3 i i0 i1).2.2.2.1, (a3 i i0 i1).2.2.2.2.1⟩)
  subst e
  by_cases hr : r < 0
  · have b1 := p3 hr
    have b2 := q3 hr
    subst b1
    subst b2
    refine ⟨r, _, _, p1, q1, hS', ?_, Ch.refl, Ch.refl, Gj.refl _⟩
    by_cases k : jok x y o
    · by_cases d : jdu (nJ N2') (A N' 2) (A N' 3) x y
      · have := (p2.2 k).1 d; omega
      · by_cases f : nJ N2' = 24
        · have := ((p2.2 k).2 d).1 f; omega
        · have := ((p2.2 k).2 d).2 f; omega
    · have := p2.1 k; omega
  · have hr0 : 0 ≤ r := by omega
    obtain ⟨b1, b2, b3, b4⟩ := JS_pos p2 hr0
    obtain ⟨k1, k2, k3⟩ := b2
    have hb : ∀ i : Int, 0 ≤ i → i < nJ N2 → ¬ (px N2 i = x ∧ py N2 i = y) := fun i i0 i1 h => by
      have := a3 i i0 i1
      exact b3 ⟨i, i0, i1, by rw [this.2.2.2.1]; exact h.1, by rw [this.2.2.2.2.1]; exact h.2⟩
    have e1 := p4 hr0
    have e2 := q4 hr0
    have c1 : Ch [2, 3, 4, 14, 15] [(1, 3), (1, 17)] N N' := by
      rw [e1]; unfold cJ
      exact (((((((Ch.refl.wm (Or.inl (by decide))).wm (Or.inl (by decide))).wm (Or.inl (by decide))).wm (Or.inr (by decide))).wm (Or.inl (by decide))).wm (Or.inl (by decide))).wm (Or.inr (by decide)))
    have c2 : Ch [220, 221, 222, 244, 245] [(219, 0), (219, 31)] N2 N2' := by
      rw [e2]; unfold mJ
      exact (((((((Ch.refl.wm (Or.inl (by decide))).wm (Or.inl (by decide))).wm (Or.inl (by decide))).wm (Or.inr (by decide))).wm (Or.inl (by decide))).wm (Or.inl (by decide))).wm (Or.inr (by decide)))
    have f0 : nJ N2' = nJ N2 + 1 := by
      show A N2' 219 0 = _
      rw [e2]; unfold mJ; simp (config := { maxSteps := 1000000 }) (disch := (first | omega | decide | assumption)) only [ltm_s, ok_n, rd_i, rd_j, fd_i, fd_j, wr_i, wr_j, fw_i, fw_j, ci_s, cj_s, cv_s, dv_n, dw_n, rt_1, rt_b, rt_20, rt_21, okb_0, okb_1, okb_b, nar_0, nar_1, nar_b, i_0, i_1, j_0, j_1, i_lit, j_lit, i_n, iI_add, iI_sub, iI_mul, iI_neg, jI_add, jI_sub, jI_mul, jI_neg, sh_1, an_1, xo_1, di_p, dj_p, i_64A, i_64, j_32, lq_ge, lq_lt, lq_le, lq_gt, lq_eq, i_lt, i_le, i_eq, j_eq, iI_A, jI_J, iI_b, iI_v, jI_v, ↓reduceIte, ite_true, ite_false, Int.reduceEq, Int.reduceLT, Int.reduceLE, Int.reduceAdd, Int.reduceSub, Int.reduceMul, Int.reduceNeg, not_true_eq_false, not_false_eq_true, A_Wn, A_WA, A_Wb, A_Ws, A_Wo, A_X, J_W, J_Xn, J_XJ, J_Xs, J_Xo]
      rw [eJ]
    have f31 : A N2' 219 31 = A N2 219 31 + 1 := by
      rw [e2]; unfold mJ; simp (config := { maxSteps := 1000000 }) (disch := (first | omega | decide | assumption)) only [ltm_s, ok_n, rd_i, rd_j, fd_i, fd_j, wr_i, wr_j, fw_i, fw_j, ci_s, cj_s, cv_s, dv_n, dw_n, rt_1, rt_b, rt_20, rt_21, okb_0, okb_1, okb_b, nar_0, nar_1, nar_b, i_0, i_1, j_0, j_1, i_lit, j_lit, i_n, iI_add, iI_sub, iI_mul, iI_neg, jI_add, jI_sub, jI_mul, jI_neg, sh_1, an_1, xo_1, di_p, dj_p, i_64A, i_64, j_32, lq_ge, lq_lt, lq_le, lq_gt, lq_eq, i_lt, i_le, i_eq, j_eq, iI_A, jI_J, iI_b, iI_v, jI_v, ↓reduceIte, ite_true, ite_false, Int.reduceEq, Int.reduceLT, Int.reduceLE, Int.reduceAdd, Int.reduceSub, Int.reduceMul, Int.reduceNeg, not_true_eq_false, not_false_eq_true, A_Wn, A_WA, A_Wb, A_Ws, A_Wo, A_X, J_W, J_Xn, J_XJ, J_Xs, J_Xo]
    have f13 : A N' 1 3 = nJ N2 + 1 := by
      rw [e1]; unfold cJ; simp (config := { maxSteps := 1000000 }) (disch := (first | omega | decide | assumption)) only [ltm_s, ok_n, rd_i, rd_j, fd_i, fd_j, wr_i, wr_j, fw_i, fw_j, ci_s, cj_s, cv_s, dv_n, dw_n, rt_1, rt_b, rt_20, rt_21, okb_0, okb_1, okb_b, nar_0, nar_1, nar_b, i_0, i_1, j_0, j_1, i_lit, j_lit, i_n, iI_add, iI_sub, iI_mul, iI_neg, jI_add, jI_sub, jI_mul, jI_neg, sh_1, an_1, xo_1, di_p, dj_p, i_64A, i_64, j_32, lq_ge, lq_lt, lq_le, lq_gt, lq_eq, i_lt, i_le, i_eq, j_eq, iI_A, jI_J, iI_b, iI_v, jI_v, ↓reduceIte, ite_true, ite_false, Int.reduceEq, Int.reduceLT, Int.reduceLE, Int.reduceAdd, Int.reduceSub, Int.reduceMul, Int.reduceNeg, not_true_eq_false, not_false_eq_true, A_Wn, A_WA, A_Wb, A_Ws, A_Wo, A_X, J_W, J_Xn, J_XJ, J_Xs, J_Xo]
      rw [a2]
    have f17 : A N' 1 17 = A N2 219 31 + 1 := by
      rw [e1]; unfold cJ; simp (config := { maxSteps := 1000000 }) (disch := (first | omega | decide | assumption)) only [ltm_s, ok_n, rd_i, rd_j, fd_i, fd_j, wr_i, wr_j, fw_i, fw_j, ci_s, cj_s, cv_s, dv_n, dw_n, rt_1, rt_b, rt_20, rt_21, okb_0, okb_1, okb_b, nar_0, nar_1, nar_b, i_0, i_1, j_0, j_1, i_lit, j_lit, i_n, iI_add, iI_sub, iI_mul, iI_neg, jI_add, jI_sub, jI_mul, jI_neg, sh_1, an_1, xo_1, di_p, dj_p, i_64A, i_64, j_32, lq_ge, lq_lt, lq_le, lq_gt, lq_eq, i_lt, i_le, i_eq, j_eq, iI_A, jI_J, iI_b, iI_v, jI_v, ↓reduceIte, ite_true, ite_false, Int.reduceEq, Int.reduceLT, Int.reduceLE, Int.reduceAdd, Int.reduceSub, Int.reduceMul, Int.reduceNeg, not_true_eq_false, not_false_eq_true, A_Wn, A_WA, A_Wb, A_Ws, A_Wo, A_X, J_W, J_Xn, J_XJ, J_Xs, J_Xo]
      rw [a8]
    have fW : nW N2' = nW N2 := c2.f (a := 219) (z := 4) rfl
    have fD : nD N2' = nD N2 := c2.f (a := 219) (z := 10) rfl
    have r220 : ∀ i : Int, 0 ≤ i → ¬ i = nJ N2 → A N2' 220 i = A N2 220 i := fun i i0 i1 => by
      rw [← eJ] at i1; rw [e2]; unfold mJ; simp (config := { maxSteps := 1000000 }) (disch := (first | omega | decide | assumption)) only [ltm_s, ok_n, rd_i, rd_j, fd_i, fd_j, wr_i, wr_j, fw_i, fw_j, ci_s, cj_s, cv_s, dv_n, dw_n, rt_1, rt_b, rt_20, rt_21, okb_0, okb_1, okb_b, nar_0, nar_1, nar_b, i_0, i_1, j_0, j_1, i_lit, j_lit, i_n, iI_add, iI_sub, iI_mul, iI_neg, jI_add, jI_sub, jI_mul, jI_neg, sh_1, an_1, xo_1, di_p, dj_p, i_64A, i_64, j_32, lq_ge, lq_lt, lq_le, lq_gt, lq_eq, i_lt, i_le, i_eq, j_eq, iI_A, jI_J, iI_b, iI_v, jI_v, ↓reduceIte, ite_true, ite_false, Int.reduceEq, Int.reduceLT, Int.reduceLE, Int.reduceAdd, Int.reduceSub, Int.reduceMul, Int.reduceNeg, not_true_eq_false, not_false_eq_true, A_Wn, A_WA, A_Wb, A_Ws, A_Wo, A_X, J_W, J_Xn, J_XJ, J_Xs, J_Xo]
    have r221 : ∀ i : Int, 0 ≤ i → ¬ i = nJ N2 → A N2' 221 i = A N2 221 i := fun i i0 i1 => by
      rw [← eJ] at i1; rw [e2]; unfold mJ; simp (config := { maxSteps := 1000000 }) (disch := (first | omega | decide | assumption)) only [ltm_s, ok_n, rd_i, rd_j, fd_i, fd_j, wr_i, wr_j, fw_i, fw_j, ci_s, cj_s, cv_s, dv_n, dw_n, rt_1, rt_b, rt_20, rt_21, okb_0, okb_1, okb_b, nar_0, nar_1, nar_b, i_0, i_1, j_0, j_1, i_lit, j_lit, i_n, iI_add, iI_sub, iI_mul, iI_neg, jI_add, jI_sub, jI_mul, jI_neg, sh_1, an_1, xo_1, di_p, dj_p, i_64A, i_64, j_32, lq_ge, lq_lt, lq_le, lq_gt, lq_eq, i_lt, i_le, i_eq, j_eq, iI_A, jI_J, iI_b, iI_v, jI_v, ↓reduceIte, ite_true, ite_false, Int.reduceEq, Int.reduceLT, Int.reduceLE, Int.reduceAdd, Int.reduceSub, Int.reduceMul, Int.reduceNeg, not_true_eq_false, not_false_eq_true, A_Wn, A_WA, A_Wb, A_Ws, A_Wo, A_X, J_W, J_Xn, J_XJ, J_Xs, J_Xo]
    have r222 : ∀ i : Int, 0 ≤ i → ¬ i = nJ N2 → A N2' 222 i = A N2 222 i := fun i i0 i1 => by
      rw [← eJ] at i1; rw [e2]; unfold mJ; simp (config := { maxSteps := 1000000 }) (disch := (first | omega | decide | assumption)) only [ltm_s, ok_n, rd_i, rd_j, fd_i, fd_j, wr_i, wr_j, fw_i, fw_j, ci_s, cj_s, cv_s, dv_n, dw_n, rt_1, rt_b, rt_20, rt_21, okb_0, okb_1, okb_b, nar_0, nar_1, nar_b, i_0, i_1, j_0, j_1, i_lit, j_lit, i_n, iI_add, iI_sub, iI_mul, iI_neg, jI_add, jI_sub, jI_mul, jI_neg, sh_1, an_1, xo_1, di_p, dj_p, i_64A, i_64, j_32, lq_ge, lq_lt, lq_le, lq_gt, lq_eq, i_lt, i_le, i_eq, j_eq, iI_A, jI_J, iI_b, iI_v, jI_v, ↓reduceIte, ite_true, ite_false, Int.reduceEq, Int.reduceLT, Int.reduceLE, Int.reduceAdd, Int.reduceSub, Int.reduceMul, Int.reduceNeg, not_true_eq_false, not_false_eq_true, A_Wn, A_WA, A_Wb, A_Ws, A_Wo, A_X, J_W, J_Xn, J_XJ, J_Xs, J_Xo]
    have s220 : A N2' 220 (nJ N2) = x := by
      rw [← eJ, e2]; unfold mJ; simp (config := { maxSteps := 1000000 }) (disch := (first | omega | decide | assumption)) only [ltm_s, ok_n, rd_i, rd_j, fd_i, fd_j, wr_i, wr_j, fw_i, fw_j, ci_s, cj_s, cv_s, dv_n, dw_n, rt_1, rt_b, rt_20, rt_21, okb_0, okb_1, okb_b, nar_0, nar_1, nar_b, i_0, i_1, j_0, j_1, i_lit, j_lit, i_n, iI_add, iI_sub, iI_mul, iI_neg, jI_add, jI_sub, jI_mul, jI_neg, sh_1, an_1, xo_1, di_p, dj_p, i_64A, i_64, j_32, lq_ge, lq_lt, lq_le, lq_gt, lq_eq, i_lt, i_le, i_eq, j_eq, iI_A, jI_J, iI_b, iI_v, jI_v, ↓reduceIte, ite_true, ite_false, Int.reduceEq, Int.reduceLT, Int.reduceLE, Int.reduceAdd, Int.reduceSub, Int.reduceMul, Int.reduceNeg, not_true_eq_false, not_false_eq_true, A_Wn, A_WA, A_Wb, A_Ws, A_Wo, A_X, J_W, J_Xn, J_XJ, J_Xs, J_Xo]
    have s221 : A N2' 221 (nJ N2) = y := by
      rw [← eJ, e2]; unfold mJ; simp (config := { maxSteps := 1000000 }) (disch := (first | omega | decide | assumption)) only [ltm_s, ok_n, rd_i, rd_j, fd_i, fd_j, wr_i, wr_j, fw_i, fw_j, ci_s, cj_s, cv_s, dv_n, dw_n, rt_1, rt_b, rt_20, rt_21, okb_0, okb_1, okb_b, nar_0, nar_1, nar_b, i_0, i_1, j_0, j_1, i_lit, j_lit, i_n, iI_add, iI_sub, iI_mul, iI_neg, jI_add, jI_sub, jI_mul, jI_neg, sh_1, an_1, xo_1, di_p, dj_p, i_64A, i_64, j_32, lq_ge, lq_lt, lq_le, lq_gt, lq_eq, i_lt, i_le, i_eq, j_eq, iI_A, jI_J, iI_b, iI_v, jI_v, ↓reduceIte, ite_true, ite_false, Int.reduceEq, Int.reduceLT, Int.reduceLE, Int.reduceAdd, Int.reduceSub, Int.reduceMul, Int.reduceNeg, not_true_eq_false, not_false_eq_true, A_Wn, A_WA, A_Wb, A_Ws, A_Wo, A_X, J_W, J_Xn, J_XJ, J_Xs, J_Xo]
    have s222 : A N2' 222 (nJ N2) = o := by
      rw [← eJ, e2]; unfold mJ; simp (config := { maxSteps := 1000000 }) (disch := (first | omega | decide | assumption)) only [ltm_s, ok_n, rd_i, rd_j, fd_i, fd_j, wr_i, wr_j, fw_i, fw_j, ci_s, cj_s, cv_s, dv_n, dw_n, rt_1, rt_b, rt_20, rt_21, okb_0, okb_1, okb_b, nar_0, nar_1, nar_b, i_0, i_1, j_0, j_1, i_lit, j_lit, i_n, iI_add, iI_sub, iI_mul, iI_neg, jI_add, jI_sub, jI_mul, jI_neg, sh_1, an_1, xo_1, di_p, dj_p, i_64A, i_64, j_32, lq_ge, lq_lt, lq_le, lq_gt, lq_eq, i_lt, i_le, i_eq, j_eq, iI_A, jI_J, iI_b, iI_v, jI_v, ↓reduceIte, ite_true, ite_false, Int.reduceEq, Int.reduceLT, Int.reduceLE, Int.reduceAdd, Int.reduceSub, Int.reduceMul, Int.reduceNeg, not_true_eq_false, not_false_eq_true, A_Wn, A_WA, A_Wb, A_Ws, A_Wo, A_X, J_W, J_Xn, J_XJ, J_Xs, J_Xo]
    have r2 : ∀ i : Int, 0 ≤ i → ¬ i = nJ N2 → A N' 2 i = A N 2 i := fun i i0 i1 => by
      rw [← a2] at i1; rw [e1]; unfold cJ; simp (config := { maxSteps := 1000000 }) (disch := (first | omega | decide | assumption)) only [ltm_s, ok_n, rd_i, rd_j, fd_i, fd_j, wr_i, wr_j, fw_i, fw_j, ci_s, cj_s, cv_s, dv_n, dw_n, rt_1, rt_b, rt_20, rt_21, okb_0, okb_1, okb_b, nar_0, nar_1, nar_b, i_0, i_1, j_0, j_1, i_lit, j_lit, i_n, iI_add, iI_sub, iI_mul, iI_neg, jI_add, jI_sub, jI_mul, jI_neg, sh_1, an_1, xo_1, di_p, dj_p, i_64A, i_64, j_32, lq_ge, lq_lt, lq_le, lq_gt, lq_eq, i_lt, i_le, i_eq, j_eq, iI_A, jI_J, iI_b, iI_v, jI_v, ↓reduceIte, ite_true, ite_false, Int.reduceEq, Int.reduceLT, Int.reduceLE, Int.reduceAdd, Int.reduceSub, Int.reduceMul, Int.reduceNeg, not_true_eq_false, not_false_eq_true, A_Wn, A_WA, A_Wb, A_Ws, A_Wo, A_X, J_W, J_Xn, J_XJ, J_Xs, J_Xo]
    have r3 : ∀ i : Int, 0 ≤ i → ¬ i = nJ N2 → A N' 3 i = A N 3 i := fun i i0 i1 => by
      rw [← a2] at i1; rw [e1]; unfold cJ; simp (config := { maxSteps := 1000000 }) (disch := (first | omega | decide | assumption)) only [ltm_s, ok_n, rd_i, rd_j, fd_i, fd_j, wr_i, wr_j, fw_i, fw_j, ci_s, cj_s, cv_s, dv_n, dw_n, rt_1, rt_b, rt_20, rt_21, okb_0, okb_1, okb_b, nar_0, nar_1, nar_b, i_0, i_1, j_0, j_1, i_lit, j_lit, i_n, iI_add, iI_sub, iI_mul, iI_neg, jI_add, jI_sub, jI_mul, jI_neg, sh_1, an_1, xo_1, di_p, dj_p, i_64A, i_64, j_32, lq_ge, lq_lt, lq_le, lq_gt, lq_eq, i_lt, i_le, i_eq, j_eq, iI_A, jI_J, iI_b, iI_v, jI_v, ↓reduceIte, ite_true, ite_false, Int.reduceEq, Int.reduceLT, Int.reduceLE, Int.reduceAdd, Int.reduceSub, Int.reduceMul, Int.reduceNeg, not_true_eq_false, not_false_eq_true, A_Wn, A_WA, A_Wb, A_Ws, A_Wo, A_X, J_W, J_Xn, J_XJ, J_Xs, J_Xo]
    have r4 : ∀ i : Int, 0 ≤ i → ¬ i = nJ N2 → A N' 4 i = A N 4 i := fun i i0 i1 => by
      rw [← a2] at i1; rw [e1]; unfold cJ; simp (config := { maxSteps := 1000000 }) (disch := (first | omega | decide | assumption)) only [ltm_s, ok_n, rd_i, rd_j, fd_i, fd_j, wr_i, wr_j, fw_i, fw_j, ci_s, cj_s, cv_s, dv_n, dw_n, rt_1, rt_b, rt_20, rt_21, okb_0, okb_1, okb_b, nar_0, nar_1, nar_b, i_0, i_1, j_0, j_1, i_lit, j_lit, i_n, iI_add, iI_sub, iI_mul, iI_neg, jI_add, jI_sub, jI_mul, jI_neg, sh_1, an_1, xo_1, di_p, dj_p, i_64A, i_64, j_32, lq_ge, lq_lt, lq_le, lq_gt, lq_eq, i_lt, i_le, i_eq, j_eq, iI_A, jI_J, iI_b, iI_v, jI_v, ↓reduceIte, ite_true, ite_false, Int.reduceEq, Int.reduceLT, Int.reduceLE, Int.reduceAdd, Int.reduceSub, Int.reduceMul, Int.reduceNeg, not_true_eq_false, not_false_eq_true, A_Wn, A_WA, A_Wb, A_Ws, A_Wo, A_X, J_W, J_Xn, J_XJ, J_Xs, J_Xo]
    have s2 : A N' 2 (nJ N2) = x := by
      rw [← a2, e1]; unfold cJ; simp (config := { maxSteps := 1000000 }) (disch := (first | omega | decide | assumption)) only [ltm_s, ok_n, rd_i, rd_j, fd_i, fd_j, wr_i, wr_j, fw_i, fw_j, ci_s, cj_s, cv_s, dv_n, dw_n, rt_1, rt_b, rt_20, rt_21, okb_0, okb_1, okb_b, nar_0, nar_1, nar_b, i_0, i_1, j_0, j_1, i_lit, j_lit, i_n, iI_add, iI_sub, iI_mul, iI_neg, jI_add, jI_sub, jI_mul, jI_neg, sh_1, an_1, xo_1, di_p, dj_p, i_64A, i_64, j_32, lq_ge, lq_lt, lq_le, lq_gt, lq_eq, i_lt, i_le, i_eq, j_eq, iI_A, jI_J, iI_b, iI_v, jI_v, ↓reduceIte, ite_true, ite_false, Int.reduceEq, Int.reduceLT, Int.reduceLE, Int.reduceAdd, Int.reduceSub, Int.reduceMul, Int.reduceNeg, not_true_eq_false, not_false_eq_true, A_Wn, A_WA, A_Wb, A_Ws, A_Wo, A_X, J_W, J_Xn, J_XJ, J_Xs, J_Xo]
    have s3 : A N' 3 (nJ N2) = y := by
      rw [← a2, e1]; unfold cJ; simp (config := { maxSteps := 1000000 }) (disch := (first | omega | decide | assumption)) only [ltm_s, ok_n, rd_i, rd_j, fd_i, fd_j, wr_i, wr_j, fw_i, fw_j, ci_s, cj_s, cv_s, dv_n, dw_n, rt_1, rt_b, rt_20, rt_21, okb_0, okb_1, okb_b, nar_0, nar_1, nar_b, i_0, i_1, j_0, j_1, i_lit, j_lit, i_n, iI_add, iI_sub, iI_mul, iI_neg, jI_add, jI_sub, jI_mul, jI_neg, sh_1, an_1, xo_1, di_p, dj_p, i_64A, i_64, j_32, lq_ge, lq_lt, lq_le, lq_gt, lq_eq, i_lt, i_le, i_eq, j_eq, iI_A, jI_J, iI_b, iI_v, jI_v, ↓reduceIte, ite_true, ite_false, Int.reduceEq, Int.reduceLT, Int.reduceLE, Int.reduceAdd, Int.reduceSub, Int.reduceMul, Int.reduceNeg, not_true_eq_false, not_false_eq_true, A_Wn, A_WA, A_Wb, A_Ws, A_Wo, A_X, J_W, J_Xn, J_XJ, J_Xs, J_Xo]
    have s4 : A N' 4 (nJ N2) = o := by
      rw [← a2, e1]; unfold cJ; simp (config := { maxSteps := 1000000 }) (disch := (first | omega | decide | assumption)) only [ltm_s, ok_n, rd_i, rd_j, fd_i, fd_j, wr_i, wr_j, fw_i, fw_j, ci_s, cj_s, cv_s, dv_n, dw_n, rt_1, rt_b, rt_20, rt_21, okb_0, okb_1, okb_b, nar_0, nar_1, nar_b, i_0, i_1, j_0, j_1, i_lit, j_lit, i_n, iI_add, iI_sub, iI_mul, iI_neg, jI_add, jI_sub, jI_mul, jI_neg, sh_1, an_1, xo_1, di_p, dj_p, i_64A, i_64, j_32, lq_ge, lq_lt, lq_le, lq_gt, lq_eq, i_lt, i_le, i_eq, j_eq, iI_A, jI_J, iI_b, iI_v, jI_v, ↓reduceIte, ite_true, ite_false, Int.reduceEq, Int.reduceLT, Int.reduceLE, Int.reduceAdd, Int.reduceSub, Int.reduceMul, Int.reduceNeg, not_true_eq_false, not_false_eq_true, A_Wn, A_WA, A_Wb, A_Ws, A_Wo, A_X, J_W, J_Xn, J_XJ, J_Xs, J_Xo]
    have r244 : ∀ i : Int, 0 ≤ i → ¬ i = A N2 219 31 → A N2' 244 i = A N2 244 i := fun i i0 i1 => by
      rw [e2]; unfold mJ; simp (config := { maxSteps := 1000000 }) (disch := (first | omega | decide | assumption)) only [ltm_s, ok_n, rd_i, rd_j, fd_i, fd_j, wr_i, wr_j, fw_i, fw_j, ci_s, cj_s, cv_s, dv_n, dw_n, rt_1, rt_b, rt_20, rt_21, okb_0, okb_1, okb_b, nar_0, nar_1, nar_b, i_0, i_1, j_0, j_1, i_lit, j_lit, i_n, iI_add, iI_sub, iI_mul, iI_neg, jI_add, jI_sub, jI_mul, jI_neg, sh_1, an_1, xo_1, di_p, dj_p, i_64A, i_64, j_32, lq_ge, lq_lt, lq_le, lq_gt, lq_eq, i_lt, i_le, i_eq, j_eq, iI_A, jI_J, iI_b, iI_v, jI_v, ↓reduceIte, ite_true, ite_false, Int.reduceEq, Int.reduceLT, Int.reduceLE, Int.reduceAdd, Int.reduceSub, Int.reduceMul, Int.reduceNeg, not_true_eq_false, not_false_eq_true, A_Wn, A_WA, A_Wb, A_Ws, A_Wo, A_X, J_W, J_Xn, J_XJ, J_Xs, J_Xo]
    have r245 : ∀ i : Int, 0 ≤ i → ¬ i = A N2 219 31 → A N2' 245 i = A N2 245 i := fun i i0 i1 => by
      rw [e2]; unfold mJ; simp (config := { maxSteps := 1000000 }) (disch := (first | omega | decide | assumption)) only [ltm_s, ok_n, rd_i, rd_j, fd_i, fd_j, wr_i, wr_j, fw_i, fw_j, ci_s, cj_s, cv_s, dv_n, dw_n, rt_1, rt_b, rt_20, rt_21, okb_0, okb_1, okb_b, nar_0, nar_1, nar_b, i_0, i_1, j_0, j_1, i_lit, j_lit, i_n, iI_add, iI_sub, iI_mul, iI_neg, jI_add, jI_sub, jI_mul, jI_neg, sh_1, an_1, xo_1, di_p, dj_p, i_64A, i_64, j_32, lq_ge, lq_lt, lq_le, lq_gt, lq_eq, i_lt, i_le, i_eq, j_eq, iI_A, jI_J, iI_b, iI_v, jI_v, ↓reduceIte, ite_true, ite_false, Int.reduceEq, Int.reduceLT, Int.reduceLE, Int.reduceAdd, Int.reduceSub, Int.reduceMul, Int.reduceNeg, not_true_eq_false, not_false_eq_true, A_Wn, A_WA, A_Wb, A_Ws, A_Wo, A_X, J_W, J_Xn, J_XJ, J_Xs, J_Xo]
    have s244 : A N2' 244 (A N2 219 31) = 0 := by
      rw [e2]; unfold mJ; simp (config := { maxSteps := 1000000 }) (disch := (first | omega | decide | assumption)) only [ltm_s, ok_n, rd_i, rd_j, fd_i, fd_j, wr_i, wr_j, fw_i, fw_j, ci_s, cj_s, cv_s, dv_n, dw_n, rt_1, rt_b, rt_20, rt_21, okb_0, okb_1, okb_b, nar_0, nar_1, nar_b, i_0, i_1, j_0, j_1, i_lit, j_lit, i_n, iI_add, iI_sub, iI_mul, iI_neg, jI_add, jI_sub, jI_mul, jI_neg, sh_1, an_1, xo_1, di_p, dj_p, i_64A, i_64, j_32, lq_ge, lq_lt, lq_le, lq_gt, lq_eq, i_lt, i_le, i_eq, j_eq, iI_A, jI_J, iI_b, iI_v, jI_v, ↓reduceIte, ite_true, ite_false, Int.reduceEq, Int.reduceLT, Int.reduceLE, Int.reduceAdd, Int.reduceSub, Int.reduceMul, Int.reduceNeg, not_true_eq_false, not_false_eq_true, A_Wn, A_WA, A_Wb, A_Ws, A_Wo, A_X, J_W, J_Xn, J_XJ, J_Xs, J_Xo]
    have s245 : A N2' 245 (A N2 219 31) = nJ N2 := by
      rw [e2]; unfold mJ; simp (config := { maxSteps := 1000000 }) (disch := (first | omega | decide | assumption)) only [ltm_s, ok_n, rd_i, rd_j, fd_i, fd_j, wr_i, wr_j, fw_i, fw_j, ci_s, cj_s, cv_s, dv_n, dw_n, rt_1, rt_b, rt_20, rt_21, okb_0, okb_1, okb_b, nar_0, nar_1, nar_b, i_0, i_1, j_0, j_1, i_lit, j_lit, i_n, iI_add, iI_sub, iI_mul, iI_neg, jI_add, jI_sub, jI_mul, jI_neg, sh_1, an_1, xo_1, di_p, dj_p, i_64A, i_64, j_32, lq_ge, lq_lt, lq_le, lq_gt, lq_eq, i_lt, i_le, i_eq, j_eq, iI_A, jI_J, iI_b, iI_v, jI_v, ↓reduceIte, ite_true, ite_false, Int.reduceEq, Int.reduceLT, Int.reduceLE, Int.reduceAdd, Int.reduceSub, Int.reduceMul, Int.reduceNeg, not_true_eq_false, not_false_eq_true, A_Wn, A_WA, A_Wb, A_Ws, A_Wo, A_X, J_W, J_Xn, J_XJ, J_Xs, J_Xo]
      rw [eJ]
    have r14 : ∀ i : Int, 0 ≤ i → ¬ i = A N2 219 31 → A N' 14 i = A N 14 i := fun i i0 i1 => by
      rw [← a8] at i1; rw [e1]; unfold cJ; simp (config := { maxSteps := 1000000 }) (disch := (first | omega | decide | assumption)) only [ltm_s, ok_n, rd_i, rd_j, fd_i, fd_j, wr_i, wr_j, fw_i, fw_j, ci_s, cj_s, cv_s, dv_n, dw_n, rt_1, rt_b, rt_20, rt_21, okb_0, okb_1, okb_b, nar_0, nar_1, nar_b, i_0, i_1, j_0, j_1, i_lit, j_lit, i_n, iI_add, iI_sub, iI_mul, iI_neg, jI_add, jI_sub, jI_mul, jI_neg, sh_1, an_1, xo_1, di_p, dj_p, i_64A, i_64, j_32, lq_ge, lq_lt, lq_le, lq_gt, lq_eq, i_lt, i_le, i_eq, j_eq, iI_A, jI_J, iI_b, iI_v, jI_v, ↓reduceIte, ite_true, ite_false, Int.reduceEq, Int.reduceLT, Int.reduceLE, Int.reduceAdd, Int.reduceSub, Int.reduceMul, Int.reduceNeg, not_true_eq_false, not_false_eq_true, A_Wn, A_WA, A_Wb, A_Ws, A_Wo, A_X, J_W, J_Xn, J_XJ, J_Xs, J_Xo]
    have r15 : ∀ i : Int, 0 ≤ i → ¬ i = A N2 219 31 → A N' 15 i = A N 15 i := fun i i0 i1 => by
      rw [← a8] at i1; rw [e1]; unfold cJ; simp (config := { maxSteps := 1000000 }) (disch := (first | omega | decide | assumption)) only [ltm_s, ok_n, rd_i, rd_j, fd_i, fd_j, wr_i, wr_j, fw_i, fw_j, ci_s, cj_s, cv_s, dv_n, dw_n, rt_1, rt_b, rt_20, rt_21, okb_0, okb_1, okb_b, nar_0, nar_1, nar_b, i_0, i_1, j_0, j_1, i_lit, j_lit, i_n, iI_add, iI_sub, iI_mul, iI_neg, jI_add, jI_sub, jI_mul, jI_neg, sh_1, an_1, xo_1, di_p, dj_p, i_64A, i_64, j_32, lq_ge, lq_lt, lq_le, lq_gt, lq_eq, i_lt, i_le, i_eq, j_eq, iI_A, jI_J, iI_b, iI_v, jI_v, ↓reduceIte, ite_true, ite_false, Int.reduceEq, Int.reduceLT, Int.reduceLE, Int.reduceAdd, Int.reduceSub, Int.reduceMul, Int.reduceNeg, not_true_eq_false, not_false_eq_true, A_Wn, A_WA, A_Wb, A_Ws, A_Wo, A_X, J_W, J_Xn, J_XJ, J_Xs, J_Xo]
    have s14 : A N' 14 (A N2 219 31) = 0 := by
      rw [← a8, e1]; unfold cJ; simp (config := { maxSteps := 1000000 }) (disch := (first | omega | decide | assumption)) only [ltm_s, ok_n, rd_i, rd_j, fd_i, fd_j, wr_i, wr_j, fw_i, fw_j, ci_s, cj_s, cv_s, dv_n, dw_n, rt_1, rt_b, rt_20, rt_21, okb_0, okb_1, okb_b, nar_0, nar_1, nar_b, i_0, i_1, j_0, j_1, i_lit, j_lit, i_n, iI_add, iI_sub, iI_mul, iI_neg, jI_add, jI_sub, jI_mul, jI_neg, sh_1, an_1, xo_1, di_p, dj_p, i_64A, i_64, j_32, lq_ge, lq_lt, lq_le, lq_gt, lq_eq, i_lt, i_le, i_eq, j_eq, iI_A, jI_J, iI_b, iI_v, jI_v, ↓reduceIte, ite_true, ite_false, Int.reduceEq, Int.reduceLT, Int.reduceLE, Int.reduceAdd, Int.reduceSub, Int.reduceMul, Int.reduceNeg, not_true_eq_false, not_false_eq_true, A_Wn, A_WA, A_Wb, A_Ws, A_Wo, A_X, J_W, J_Xn, J_XJ, J_Xs, J_Xo]
    have s15 : A N' 15 (A N2 219 31) = nJ N2 := by
      rw [← a8, e1]; unfold cJ; simp (config := { maxSteps := 1000000 }) (disch := (first | omega | decide | assumption)) only [ltm_s, ok_n, rd_i, rd_j, fd_i, fd_j, wr_i, wr_j, fw_i, fw_j, ci_s, cj_s, cv_s, dv_n, dw_n, rt_1, rt_b, rt_20, rt_21, okb_0, okb_1, okb_b, nar_0, nar_1, nar_b, i_0, i_1, j_0, j_1, i_lit, j_lit, i_n, iI_add, iI_sub, iI_mul, iI_neg, jI_add, jI_sub, jI_mul, jI_neg, sh_1, an_1, xo_1, di_p, dj_p, i_64A, i_64, j_32, lq_ge, lq_lt, lq_le, lq_gt, lq_eq, i_lt, i_le, i_eq, j_eq, iI_A, jI_J, iI_b, iI_v, jI_v, ↓reduceIte, ite_true, ite_false, Int.reduceEq, Int.reduceLT, Int.reduceLE, Int.reduceAdd, Int.reduceSub, Int.reduceMul, Int.reduceNeg, not_true_eq_false, not_false_eq_true, A_Wn, A_WA, A_Wb, A_Ws, A_Wo, A_X, J_W, J_Xn, J_XJ, J_Xs, J_Xo]
      rw [a2]
    refine ⟨r, N', N2', p1, q1, ?_, by omega, c1, c2, by omega, fun j j0 j1 => ⟨r220 j j0 (by omega), r221 j j0 (by omega)⟩⟩
    refine ⟨by rw [f0]; omega, by rw [f0, f13], fun j j0 j1 => ?_, fun i j i0 i1 j0 j1 hx hy => ?_, by rw [f31, f0, fW, fD]; omega, by rw [fW]; exact a6, by rw [fD]; exact a7, by rw [f17, f31], fun t t0 t1 => ?_⟩
    · rw [f0] at j1
      show (0 ≤ A N2' 220 j ∧ A N2' 220 j ≤ 99) ∧ (0 ≤ A N2' 221 j ∧ A N2' 221 j ≤ 99) ∧ (A N2' 222 j = 0 ∨ A N2' 222 j = 1) ∧ A N' 2 j = A N2' 220 j ∧ A N' 3 j = A N2' 221 j ∧ A N' 4 j = A N2' 222 j
      by_cases q : j = nJ N2
      · rw [q, s220, s221, s222, s2, s3, s4]
        exact ⟨k1, k2, by omega, rfl, rfl, rfl⟩
      · rw [r220 j j0 q, r221 j j0 q, r222 j j0 q, r2 j j0 q, r3 j j0 q, r4 j j0 q]
        exact a3 j j0 (by omega)
    · rw [f0] at i1 j1
      have hx' : A N2' 220 i = A N2' 220 j := hx
      have hy' : A N2' 221 i = A N2' 221 j := hy
      by_cases q : i = nJ N2
      · by_cases q2 : j = nJ N2
        · rw [q, q2]
        · rw [q, s220, r220 j j0 q2] at hx'
          rw [q, s221, r221 j j0 q2] at hy'
          exact absurd ⟨hx'.symm, hy'.symm⟩ (hb j j0 (by omega))
      · by_cases q2 : j = nJ N2
        · rw [q2, s220, r220 i i0 q] at hx'
          rw [q2, s221, r221 i i0 q] at hy'
          exact absurd ⟨hx', hy'⟩ (hb i i0 (by omega))
        · rw [r220 i i0 q, r220 j j0 q2] at hx'
          rw [r221 i i0 q, r221 j j0 q2] at hy'
          exact a4 i j i0 (by omega) j0 (by omega) hx' hy'
    · rw [f31] at t1
      rw [f0, fW, fD]
      by_cases q : t = A N2 219 31
      · rw [q, s14, s15, s244, s245]
        exact ⟨rfl, rfl, Or.inl ⟨rfl, by omega, by omega⟩⟩
      · rw [r14 t t0 q, r15 t t0 q, r244 t t0 q, r245 t t0 q]
        obtain ⟨d1, d2, d3⟩ := a9 t t0 (by omega)
        refine ⟨d1, d2, ?_⟩
        rcases d3 with ⟨z, w⟩ | ⟨z, w⟩ | ⟨z, w⟩
        · exact Or.inl ⟨z, by omega⟩
        · exact Or.inr (Or.inl ⟨z, by omega⟩)
        · exact Or.inr (Or.inr ⟨z, by omega⟩)
/-- what junctions change keeps all else -/
theorem Sj.inv (hS : Sj M' M') (hI : Inv M) (hG : Gj M M') (c : Ch [2, 3, 4, 14, 15, 220, 221, 222, 244, 245] [(1, 3), (1, 17), (219, 0), (219, 31)] M M') : Inv M' := by
  obtain ⟨h1, h2, h3, h4, h5, h6, h7, h8, h9, h10, h11, h12, h13, h14, h15, h16, h17, h18, h19, hm, ht⟩ := hI
  obtain ⟨hj, hp⟩ := hG
  have eW : nW M' = nW M := c.f (a := 219) (z := 4) rfl
  have eB : ∀ e, bg M' e = bg M e := fun e => by
    unfold bg; rw [c.a (a := 224) rfl, c.a (a := 225) rfl]
  have eE : ∀ e, en M' e = en M e := fun e => by
    unfold en; rw [c.a (a := 224) rfl, c.a (a := 225) rfl]
  refine ⟨hS.i1, ?_, ?_, c.i4 rfl h4, c.i5 rfl h5, c.i6 rfl h6, c.i7 rfl h7, c.i8 rfl h8, c.i9 rfl h9, hS.i10, c.i11 rfl h11, c.i12 rfl h12, c.i13 rfl h13, c.i14 rfl h14, c.i15 rfl h15, c.i16 rfl h16, c.i17 rfl h17, c.i18 rfl h18, c.i19 rfl h19, c.imk rfl hm, c.itd rfl ht⟩
  · obtain ⟨a1, a2, a3, a4⟩ := id h2
    refine ⟨by rw [eW]; exact a1, by rw [eW, c.f (a := 1) (z := 7) rfl]; exact a2, fun w w0 w1 => ?_, fun e e0 e1 => ?_⟩
    · rw [eW] at w1
      show (0 ≤ A M' 223 w ∧ A M' 223 w ≤ 5) ∧ (2 ≤ A M' 226 w ∧ A M' 226 w ≤ 999) ∧ (A M' 227 w = 0 ∨ A M' 227 w = 1) ∧ A M' 5 w = A M' 223 w ∧ A M' 6 w = A M' 226 w ∧ A M' 7 w = A M' 227 w
      rw [c.a (a := 223) rfl, c.a (a := 226) rfl, c.a (a := 227) rfl, c.a (a := 5) rfl, c.a (a := 6) rfl, c.a (a := 7) rfl]
      exact a3 w w0 w1
    · rw [eW] at e1
      obtain ⟨b1, b2, b3, b4, b5⟩ := a4 e e0 e1
      have re := en_r h2 e0 e1
      have p1 := hp _ b1.1 b1.2
      have p2 := hp _ re.1 re.2
      have ed : dx M' e = dx M e := by
        unfold dx; rw [eB, eE, p1.1, p2.1]
      have ey : dy M' e = dy M e := by
        unfold dy; rw [eB, eE, p1.2, p2.2]
      rw [eB, eE, ed, ey, c.a (a := 8) rfl, c.a (a := 9) rfl, c.a (a := 10) rfl]
      exact ⟨by omega, b2, b3, b4, b5⟩
  · intro j j0 j1
    obtain ⟨b1, b2, b3, b4, b5⟩ := h3 j j0 j1
    have e16 : ∀ z, A M' 16 z = A M 16 z := fun z => c.a rfl
    have e17 : ∀ z, A M' 17 z = A M 17 z := fun z => c.a rfl
    simp only [eW, eB, e16, e17]
    exact ⟨b1, fun q => b2 (by omega), b3, b4, b5⟩
theorem b_junction (hF : F = am_F T0 g) (hg : GG g) (hI : Inv M) {x y o : Int} (x1 : -2147483648 ≤ x) (x2 : x < 2147483648) (y1 : -2147483648 ≤ y) (y2 : y < 2147483648) (o1 : -2147483648 ≤ o) (o2 : o < 2147483648) :
    ∃ (r : Int) (M1 M2 : am_M), F 205 0 [.ref 0, .int (iI x), .int (iI y), .int (iI o)] [] M = some (some (.int (iI r)), M1) ∧ F 124 0 [.ref 219, .int (iI x), .int (iI y), .int (iI o)] [] M1 = some (some (.int (iI r)), M2) ∧ Inv M2 := by
  have S0 : Sj M M := Sj.ofI hI.1 hI.2.2.2.2.2.2.2.2.2.1 hI.2.1.1 hI.2.2.2.1.1
  obtain ⟨r, M1, -, p1, -, -, -, c1, -⟩ := jn_step hF hg S0 x1 x2 y1 y2 o1 o2
  have S1 : Sj M M1 := S0.ch2 c1 rfl
  obtain ⟨r', M1', M2, p2, q2, S2, hr, d1, d2, d3⟩ := jn_step hF hg S1 x1 x2 y1 y2 o1 o2
  rw [p1] at p2
  have e := Option.some.inj p2
  have ea := (Prod.mk.inj e).1
  have eb := (Prod.mk.inj e).2
  subst eb
  have S3 : Sj M2 M2 := S2.ch1 d2 rfl
  have hc : Ch [2, 3, 4, 14, 15, 220, 221, 222, 244, 245] [(1, 3), (1, 17), (219, 0), (219, 31)] M M2 := (c1.mono rfl).trans (d2.mono rfl)
  have g1 : Gj M M1 := by
    have e0 : nJ M1 = nJ M := c1.f (a := 219) (z := 0) rfl
    exact ⟨by omega, fun j _ _ => ⟨c1.a (a := 220) rfl, c1.a (a := 221) rfl⟩⟩
  refine ⟨r', M1, M2, ?_, q2, S3.inv hI (g1.trans d3) hc⟩
  rw [p1, ea]
end Sjs
