/-! THE LEG THAT A TURN CALLS, by both -/
def nam (M : am_M) (e w kn f : Int) : Prop := fol M e f ∧ ans M (f / 2) w kn
noncomputable section
def Nxt (M : am_M) (e how w kn r : Int) : Prop :=
  (0 ≤ r → r < 2 * nW M ∧ (nam M e w kn r ∧ trn M e r = how) ∧ ∀ f : Int, 0 ≤ f → f < r → ¬ (nam M e w kn f ∧ trn M e f = how)) ∧
  (r < 0 → (∀ f : Int, 0 ≤ f → f < 2 * nW M → ¬ (nam M e w kn f ∧ trn M e f = how)) ∧ (r = -3 ∧ (∃ f : Int, 0 ≤ f ∧ f < 2 * nW M ∧ nam M e w kn f) ∨ r = -2 ∧ ∀ f : Int, 0 ≤ f → f < 2 * nW M → ¬ nam M e w kn f))
end
section Nx
variable {M0 M X : am_M} {g : am_G} {F : am_FT}
theorem Nxt_u {e how w kn r s : Int} (h : Nxt M0 e how w kn r) (h' : Nxt M0 e how w kn s) : r = s := by
  by_cases a : 0 ≤ r
  · obtain ⟨a1, a2, a3⟩ := h.1 a
    by_cases b : 0 ≤ s
    · obtain ⟨b1, b2, b3⟩ := h'.1 b
      by_cases c : r < s
      · exact absurd a2 (b3 r a c)
      · by_cases d : s < r
        · exact absurd b2 (a3 s b d)
        · omega
    · exact absurd a2 ((h'.2 (by omega)).1 r a a1)
  · obtain ⟨a1, a2⟩ := h.2 (by omega)
    by_cases b : 0 ≤ s
    · obtain ⟨b1, b2, b3⟩ := h'.1 b
      exact absurd b2 (a1 s b b1)
    · obtain ⟨b1, b2⟩ := h'.2 (by omega)
      rcases a2 with ⟨x, f, f0, f1, f2⟩ | ⟨x, x2⟩
      · rcases b2 with ⟨y, -⟩ | ⟨y, y2⟩
        · omega
        · exact absurd f2 (y2 f f0 f1)
      · rcases b2 with ⟨y, f, f0, f1, f2⟩ | ⟨y, -⟩
        · exact absurd f2 (x2 f f0 f1)
        · omega
theorem sm_trn (h : Sm M X) : trn X = trn M := by
  have hbg := h.bgE
  have hen := h.enE
  have hfol := h.folE
  have hnW := h.nWE
  obtain ⟨f0, f4, f10, f14, f15, f19, f24, r220, r221, r222, -⟩ := h
  have hpx : px X = px M := by funext j; exact r220 j
  have hpy : py X = py M := by funext j; exact r221 j
  have hrg : rg X = rg M := by funext j; exact r222 j
  have hdx : dx X = dx M := by funext e; unfold dx; rw [hpx, hen, hbg]
  have hdy : dy X = dy M := by funext e; unfold dy; rw [hpy, hen, hbg]
  have hcr : crs X = crs M := by funext e f; unfold crs; rw [hdx, hdy]
  have hdt : dt X = dt M := by funext e f; unfold dt; rw [hdx, hdy]
  have hqt : qt X = qt M := by funext e f; unfold qt; rw [hcr, hdt]
  have hah : ahd X = ahd M := by funext e f k; unfold ahd; rw [hqt, hcr]
  funext e f
  unfold trn
  rw [hrg, hen, hcr, hdt, hfol, hah, hnW]
theorem sm_nam (h : Sm M X) : nam X = nam M := by
  funext e w kn f
  unfold nam
  rw [h.folE, h.ansE]
theorem sm_nxt (h : Sm M X) : Nxt X = Nxt M := by
  funext e how w kn r
  unfold Nxt
  rw [sm_trn h, sm_nam h, h.nWE]
theorem trn_b (h2 : I2 M0) {e f : Int} : 0 ≤ trn M0 e f ∧ trn M0 e f ≤ 83 := by
  have hn := h2.1
  have b := cn_b (C := fun h => ¬ h = f ∧ fol M0 e h ∧ ahd M0 e h f) (2 * nW M0).toNat
  unfold trn
  repeat' split
  all_goals omega
theorem c_lc_l (hF : F = am_F T0 g) (hg : GG g) (hA : Ag M0 M) (h1 : I1 M0) (h2 : I2 M0) (h3 : I3 M0) (h5 : I5 M0) (h8 : I8 M0) {e how w : Int} (e0 : 0 ≤ e) (e1 : e < 2 * nW M0) (u0 : 0 ≤ how) (u1 : how ≤ 11) (hw : j64 w) : ∀ (m k : Nat) (acc : Int), (k : Int) + m = A M0 17 (en M0 e) → (acc = -2 ∨ acc = -3) → (∀ i : Int, 0 ≤ i → i < (k : Int) → ¬ (nam M0 e w (toD M0) (A M0 16 (en M0 e * 40 + i)) ∧ trn M0 e (A M0 16 (en M0 e * 40 + i)) = how)) → (acc = -3 → ∃ i : Int, 0 ≤ i ∧ i < (k : Int) ∧ nam M0 e w (toD M0) (A M0 16 (en M0 e * 40 + i))) → (acc = -2 → ∀ i : Int, 0 ≤ i → i < (k : Int) → ¬ nam M0 e w (toD M0) (A M0 16 (en M0 e * 40 + i))) → ∃ r : Int, F 232 17 [.ref 32, .int (iI e), .long (jI w), .int (iI how), .int (iI (en M0 e)), .int (iI acc), .int (iI (k : Int))] [] M = some (some (.int (iI r)), M) ∧ Nxt M0 e how w (toD M0) r := by
  have hn := h2.1
  have hJ := h1.1
  obtain ⟨w1, w2⟩ := hw
  have hj := en_r h2 e0 e1
  obtain ⟨dg, -, row, srt, cov⟩ := h3 (en M0 e) hj.1 (by omega)
  have t18 : A M0 18 0 = toD M0 := h8.2
  have tr8 := h8.1
  intro m
  induction m with
  | zero =>
    intro k acc hk ha q1 q2 q3
    refine ⟨acc, ?_, fun h => absurd h (by rcases ha with e | e <;> rw [e] <;> decide), fun _ => ⟨fun f f0 f1 hf => ?_, ?_⟩⟩
    · have u : A M0 17 (en M0 e) ≤ (k : Int) := by omega
      refine s_Finder_legCalled_17 hF hg ?_
      simp (config := { maxSteps := 1000000 }) (disch := (first | omega | decide | assumption)) only [ltm_s, ok_n, rd_i, rd_j, fd_i, fd_j, wr_i, wr_j, fw_i, fw_j, ci_s, cj_s, cv_s, dv_n, dw_n, rt_1, rt_b, rt_20, rt_21, okb_0, okb_1, okb_b, nar_0, nar_1, nar_b, i_0, i_1, j_0, j_1, i_lit, j_lit, i_n, iI_add, iI_sub, iI_mul, iI_neg, jI_add, jI_sub, jI_mul, jI_neg, sh_1, an_1, xo_1, di_p, dj_p, i_64A, i_64, j_32, lq_ge, lq_lt, lq_le, lq_gt, lq_eq, i_lt, i_le, i_eq, j_eq, iI_A, jI_J, iI_b, iI_v, jI_v, ↓reduceIte, ite_true, ite_false, Int.reduceEq, Int.reduceLT, Int.reduceLE, Int.reduceAdd, Int.reduceSub, Int.reduceMul, Int.reduceNeg, not_true_eq_false, not_false_eq_true, agA hA, agJA hA, ag hA, v_nJ, v_nW, v_nD, v_toD, v_px, v_py, v_rg, v_kd, v_ft, v_on, v_bg, v_en, @nJ_ M0, @nW_ M0, @nD_ M0, @toD_ M0, @px_ M0, @py_ M0, @rg_ M0, @kd_ M0, @ft_ M0, @on_ M0, bt_, u]
    · obtain ⟨i, i0, i1, ei⟩ := cov f f0 f1 hf.1.1.1
      exact q1 i i0 (by omega) (by rw [ei]; exact hf)
    · rcases ha with ha | ha
      · refine Or.inr ⟨ha, fun f f0 f1 hf => ?_⟩
        obtain ⟨i, i0, i1, ei⟩ := cov f f0 f1 hf.1.1
        exact q3 ha i i0 (by omega) (by rw [ei]; exact hf)
      · obtain ⟨i, i0, i1, hi⟩ := q2 ha
        have ri := (row i i0 (by omega)).1
        exact Or.inl ⟨ha, _, ri.1, ri.2, hi⟩
  | succ m ih =>
    intro k acc hk ha q1 q2 q3
    have hs : ((k + 1 : Nat) : Int) = (k : Int) + 1 := by omega
    have u : ¬ A M0 17 (en M0 e) ≤ (k : Int) := by omega
    obtain ⟨⟨f0, f1⟩, fb⟩ := row k (by omega) (by omega)
    have ol := c_outLeg hF hg hA (j := en M0 e) (k := (k : Int)) hj.1 (by omega) (by omega) (by omega)
    -- the step
    have st : ∀ acc' : Int, (acc' = -2 ∨ acc' = -3) → ¬ (nam M0 e w (toD M0) (A M0 16 (en M0 e * 40 + k)) ∧ trn M0 e (A M0 16 (en M0 e * 40 + k)) = how) → (acc' = -3 → (acc = -3 ∨ nam M0 e w (toD M0) (A M0 16 (en M0 e * 40 + k)))) → (acc' = -2 → acc = -2 ∧ ¬ nam M0 e w (toD M0) (A M0 16 (en M0 e * 40 + k))) → ∃ r : Int, F 232 17 [.ref 32, .int (iI e), .long (jI w), .int (iI how), .int (iI (en M0 e)), .int (iI acc'), .int (iI ((k : Int) + 1))] [] M = some (some (.int (iI r)), M) ∧ Nxt M0 e how w (toD M0) r := fun acc' a1 a2 a3 a4 => by
      obtain ⟨r, r1, r2⟩ := ih (k + 1) acc' (by omega) a1 (fun i i0 i1 => by
        by_cases ei : i = k
        · rw [ei]; exact a2
        · exact q1 i i0 (by omega)) (fun h => by
        rcases a3 h with a | a
        · obtain ⟨i, i0, i1, hi⟩ := q2 a
          exact ⟨i, i0, by omega, hi⟩
        · exact ⟨k, by omega, by omega, a⟩) (fun h i i0 i1 => by
        obtain ⟨b1, b2⟩ := a4 h
        by_cases ei : i = k
        · rw [ei]; exact b2
        · exact q3 b1 i i0 (by omega))
      rw [hs] at r1
      exact ⟨r, r1, r2⟩
    obtain ⟨f, ef⟩ : ∃ f : Int, f = A M0 16 (en M0 e * 40 + k) := ⟨_, rfl⟩
    rw [← ef] at f0 f1 fb ol st
    by_cases sw : f / 2 = e / 2
    · have nn : ¬ nam M0 e w (toD M0) f := fun h => h.1.2 sw.symm
      obtain ⟨r, r1, r2⟩ := st acc ha (fun h => nn h.1) (fun h => Or.inl h) (fun h => ⟨h, nn⟩)
      refine ⟨r, ?_, r2⟩
      have sw := eq_true sw
      refine s_Finder_legCalled_17 hF hg ?_
      simp (config := { maxSteps := 1000000 }) (disch := (first | omega | decide | assumption)) only [ltm_s, ok_n, rd_i, rd_j, fd_i, fd_j, wr_i, wr_j, fw_i, fw_j, ci_s, cj_s, cv_s, dv_n, dw_n, rt_1, rt_b, rt_20, rt_21, okb_0, okb_1, okb_b, nar_0, nar_1, nar_b, i_0, i_1, j_0, j_1, i_lit, j_lit, i_n, iI_add, iI_sub, iI_mul, iI_neg, jI_add, jI_sub, jI_mul, jI_neg, sh_1, an_1, xo_1, di_p, dj_p, i_64A, i_64, j_32, lq_ge, lq_lt, lq_le, lq_gt, lq_eq, i_lt, i_le, i_eq, j_eq, iI_A, jI_J, iI_b, iI_v, jI_v, ↓reduceIte, ite_true, ite_false, Int.reduceEq, Int.reduceLT, Int.reduceLE, Int.reduceAdd, Int.reduceSub, Int.reduceMul, Int.reduceNeg, not_true_eq_false, not_false_eq_true, agA hA, agJA hA, ag hA, v_nJ, v_nW, v_nD, v_toD, v_px, v_py, v_rg, v_kd, v_ft, v_on, v_bg, v_en, @nJ_ M0, @nW_ M0, @nD_ M0, @toD_ M0, @px_ M0, @py_ M0, @rg_ M0, @kd_ M0, @ft_ M0, @on_ M0, bt_, u, ol, sw, r1]
    · have hf : fol M0 e f := ⟨fb, fun h => sw h.symm⟩
      have an := c_answersTo hF hg hA h5 (w := f / 2) (wd := w) (kn := toD M0) (by omega) (by omega) w1 w2 (by omega) (by omega)
      by_cases qa : ans M0 (f / 2) w (toD M0)
      · rw [bI_t qa] at an
        have tr := c_howTurned hF hg hA h1 h2 h3 e0 e1 f0 f1
        have tb := trn_b h2 (e := e) (f := f)
        by_cases qh : trn M0 e f = how
        · refine ⟨f, ?_, fun _ => ⟨f1, ⟨⟨hf, qa⟩, qh⟩, fun h h0 h1' hh => ?_⟩, fun h => by omega⟩
          · have qh := eq_true qh
            refine s_Finder_legCalled_17 hF hg ?_
            simp (config := { maxSteps := 1000000 }) (disch := (first | omega | decide | assumption)) only [ltm_s, ok_n, rd_i, rd_j, fd_i, fd_j, wr_i, wr_j, fw_i, fw_j, ci_s, cj_s, cv_s, dv_n, dw_n, rt_1, rt_b, rt_20, rt_21, okb_0, okb_1, okb_b, nar_0, nar_1, nar_b, i_0, i_1, j_0, j_1, i_lit, j_lit, i_n, iI_add, iI_sub, iI_mul, iI_neg, jI_add, jI_sub, jI_mul, jI_neg, sh_1, an_1, xo_1, di_p, dj_p, i_64A, i_64, j_32, lq_ge, lq_lt, lq_le, lq_gt, lq_eq, i_lt, i_le, i_eq, j_eq, iI_A, jI_J, iI_b, iI_v, jI_v, ↓reduceIte, ite_true, ite_false, Int.reduceEq, Int.reduceLT, Int.reduceLE, Int.reduceAdd, Int.reduceSub, Int.reduceMul, Int.reduceNeg, not_true_eq_false, not_false_eq_true, agA hA, agJA hA, ag hA, v_nJ, v_nW, v_nD, v_toD, v_px, v_py, v_rg, v_kd, v_ft, v_on, v_bg, v_en, @nJ_ M0, @nW_ M0, @nD_ M0, @toD_ M0, @px_ M0, @py_ M0, @rg_ M0, @kd_ M0, @ft_ M0, @on_ M0, bt_, u, ol, sw, t18, an, tr, qh]
          · obtain ⟨i, i0, i1, ei⟩ := cov h h0 (by omega) hh.1.1.1
            by_cases c : i < k
            · exact q1 i i0 c (by rw [ei]; exact hh)
            · by_cases d : i = k
              · rw [d, ← ef] at ei; omega
              · have s := srt k i (by omega) (by omega) i1
                rw [← ef, ei] at s; omega
        · obtain ⟨r, r1, r2⟩ := st (-3) (Or.inr rfl) (fun h => qh h.2) (fun _ => Or.inr ⟨hf, qa⟩) (fun h => by omega)
          refine ⟨r, ?_, r2⟩
          refine s_Finder_legCalled_17 hF hg ?_
          simp (config := { maxSteps := 1000000 }) (disch := (first | omega | decide | assumption)) only [ltm_s, ok_n, rd_i, rd_j, fd_i, fd_j, wr_i, wr_j, fw_i, fw_j, ci_s, cj_s, cv_s, dv_n, dw_n, rt_1, rt_b, rt_20, rt_21, okb_0, okb_1, okb_b, nar_0, nar_1, nar_b, i_0, i_1, j_0, j_1, i_lit, j_lit, i_n, iI_add, iI_sub, iI_mul, iI_neg, jI_add, jI_sub, jI_mul, jI_neg, sh_1, an_1, xo_1, di_p, dj_p, i_64A, i_64, j_32, lq_ge, lq_lt, lq_le, lq_gt, lq_eq, i_lt, i_le, i_eq, j_eq, iI_A, jI_J, iI_b, iI_v, jI_v, ↓reduceIte, ite_true, ite_false, Int.reduceEq, Int.reduceLT, Int.reduceLE, Int.reduceAdd, Int.reduceSub, Int.reduceMul, Int.reduceNeg, not_true_eq_false, not_false_eq_true, agA hA, agJA hA, ag hA, v_nJ, v_nW, v_nD, v_toD, v_px, v_py, v_rg, v_kd, v_ft, v_on, v_bg, v_en, @nJ_ M0, @nW_ M0, @nD_ M0, @toD_ M0, @px_ M0, @py_ M0, @rg_ M0, @kd_ M0, @ft_ M0, @on_ M0, bt_, u, ol, sw, t18, an, tr, qh, r1]
      · rw [bI_f qa] at an
        have nn : ¬ nam M0 e w (toD M0) f := fun h => qa h.2
        obtain ⟨r, r1, r2⟩ := st acc ha (fun h => nn h.1) (fun h => Or.inl h) (fun h => ⟨h, nn⟩)
        refine ⟨r, ?_, r2⟩
        refine s_Finder_legCalled_17 hF hg ?_
        simp (config := { maxSteps := 1000000 }) (disch := (first | omega | decide | assumption)) only [ltm_s, ok_n, rd_i, rd_j, fd_i, fd_j, wr_i, wr_j, fw_i, fw_j, ci_s, cj_s, cv_s, dv_n, dw_n, rt_1, rt_b, rt_20, rt_21, okb_0, okb_1, okb_b, nar_0, nar_1, nar_b, i_0, i_1, j_0, j_1, i_lit, j_lit, i_n, iI_add, iI_sub, iI_mul, iI_neg, jI_add, jI_sub, jI_mul, jI_neg, sh_1, an_1, xo_1, di_p, dj_p, i_64A, i_64, j_32, lq_ge, lq_lt, lq_le, lq_gt, lq_eq, i_lt, i_le, i_eq, j_eq, iI_A, jI_J, iI_b, iI_v, jI_v, ↓reduceIte, ite_true, ite_false, Int.reduceEq, Int.reduceLT, Int.reduceLE, Int.reduceAdd, Int.reduceSub, Int.reduceMul, Int.reduceNeg, not_true_eq_false, not_false_eq_true, agA hA, agJA hA, ag hA, v_nJ, v_nW, v_nD, v_toD, v_px, v_py, v_rg, v_kd, v_ft, v_on, v_bg, v_en, @nJ_ M0, @nW_ M0, @nD_ M0, @toD_ M0, @px_ M0, @py_ M0, @rg_ M0, @kd_ M0, @ft_ M0, @on_ M0, bt_, u, ol, sw, t18, an, r1]
theorem c_legCalled (hF : F = am_F T0 g) (hg : GG g) (hA : Ag M0 M) (h1 : I1 M0) (h2 : I2 M0) (h3 : I3 M0) (h5 : I5 M0) (h8 : I8 M0) {e how w : Int} (e0 : 0 ≤ e) (e1 : e < 2 * nW M0) (u0 : 0 ≤ how) (u1 : how ≤ 11) (hw : j64 w) : ∃ r : Int, F 232 0 [.ref 32, .int (iI e), .long (jI w), .int (iI how)] [] M = some (some (.int (iI r)), M) ∧ Nxt M0 e how w (toD M0) r := by
  have hn := h2.1
  have hJ := h1.1
  have hj := en_r h2 e0 e1
  have dg := (h3 (en M0 e) hj.1 (by omega)).1
  obtain ⟨r, r1, r2⟩ := c_lc_l hF hg hA h1 h2 h3 h5 h8 e0 e1 u0 u1 hw (A M0 17 (en M0 e)).toNat 0 (-2) (by omega) (Or.inl rfl) (fun i i0 i1 => by omega) (fun h => by omega) (fun _ i i0 i1 => by omega)
  have z0 : ((0 : Nat) : Int) = 0 := rfl
  rw [z0] at r1
  have eo := c_endOf hF hg hA h2 e0 e1
  refine ⟨r, ?_, r2⟩
  refine s_Finder_legCalled hF hg ?_
  simp (config := { maxSteps := 1000000 }) (disch := (first | omega | decide | assumption)) only [ltm_s, ok_n, rd_i, rd_j, fd_i, fd_j, wr_i, wr_j, fw_i, fw_j, ci_s, cj_s, cv_s, dv_n, dw_n, rt_1, rt_b, rt_20, rt_21, okb_0, okb_1, okb_b, nar_0, nar_1, nar_b, i_0, i_1, j_0, j_1, i_lit, j_lit, i_n, iI_add, iI_sub, iI_mul, iI_neg, jI_add, jI_sub, jI_mul, jI_neg, sh_1, an_1, xo_1, di_p, dj_p, i_64A, i_64, j_32, lq_ge, lq_lt, lq_le, lq_gt, lq_eq, i_lt, i_le, i_eq, j_eq, iI_A, jI_J, iI_b, iI_v, jI_v, ↓reduceIte, ite_true, ite_false, Int.reduceEq, Int.reduceLT, Int.reduceLE, Int.reduceAdd, Int.reduceSub, Int.reduceMul, Int.reduceNeg, not_true_eq_false, not_false_eq_true, eo]
  exact r1
theorem m_wn_l (hF : F = am_F T0 g) (hg : GG g) (hA : Ag M0 M) (h1 : I1 M0) (h2 : I2 M0) (h5 : I5 M0) (h8 : I8 M0) {i e how w hour : Int} (i0 : 1 ≤ i) (i1 : i ≤ 20) (e0 : 0 ≤ e) (e1 : e < 2 * nW M0) (u0 : 0 ≤ how) (u1 : how ≤ 11) (hw : j64 w) (j7 : J M 267 (i - 1) = w) (a6 : A M 266 (i - 1) = how) : ∀ (m f : Nat) (any fnd : Int), (f : Int) + m = 2 * nW M0 → (any = 0 ∨ any = 1) → (any = 0 → ∀ h : Int, 0 ≤ h → h < (f : Int) → ¬ nam M0 e w (toD M0) h) → (any = 1 → ∃ h : Int, 0 ≤ h ∧ h < (f : Int) ∧ nam M0 e w (toD M0) h) → (fnd = -1 ∧ (∀ h : Int, 0 ≤ h → h < (f : Int) → ¬ (nam M0 e w (toD M0) h ∧ trn M0 e h = how)) ∨ (0 ≤ fnd ∧ fnd < 2 * nW M0) ∧ (nam M0 e w (toD M0) fnd ∧ trn M0 e fnd = how) ∧ ∀ h : Int, 0 ≤ h → h < fnd → ¬ (nam M0 e w (toD M0) h ∧ trn M0 e h = how)) →
    ∃ any' fnd' : Int, (∀ R : am_R, F 238 9 [.ref 219, .int (iI i), .int (iI e), .int (iI hour), .int (iI any'), .int (iI fnd'), .int (iI (2 * nW M0))] [] M = some R → F 238 9 [.ref 219, .int (iI i), .int (iI e), .int (iI hour), .int (iI any), .int (iI fnd), .int (iI (f : Int))] [] M = some R) ∧ (fnd' = -1 ∧ (any' = 0 ∧ Nxt M0 e how w (toD M0) (-2) ∨ any' = 1 ∧ Nxt M0 e how w (toD M0) (-3)) ∨ 0 ≤ fnd' ∧ Nxt M0 e how w (toD M0) fnd') := by
  have hn := h2.1
  obtain ⟨w1, w2⟩ := hw
  have tr8 := h8.1
  intro m
  induction m with
  | zero =>
    intro f any fnd hf ha q1 q2 q3
    have e2 : (f : Int) = 2 * nW M0 := by omega
    rw [e2] at q1 q2 q3 ⊢
    refine ⟨any, fnd, fun R hR => hR, ?_⟩
    rcases q3 with ⟨a, b⟩ | ⟨a, b, c⟩
    · refine Or.inl ⟨a, ?_⟩
      rcases ha with ha | ha
      · exact Or.inl ⟨ha, fun h => by omega, fun _ => ⟨b, Or.inr ⟨rfl, q1 ha⟩⟩⟩
      · exact Or.inr ⟨ha, fun h => by omega, fun _ => ⟨b, Or.inl ⟨rfl, q2 ha⟩⟩⟩
    · exact Or.inr ⟨a.1, fun _ => ⟨a.2, b, c⟩, fun h => by omega⟩
  | succ m ih =>
    intro f any fnd hf ha q1 q2 q3
    have hs : ((f + 1 : Nat) : Int) = (f : Int) + 1 := by omega
    have f1 : (f : Int) < 2 * nW M0 := by omega
    have hlt : ¬ 2 * nW M0 ≤ (f : Int) := by omega
    have fo := m_follows hF hg hA h1 h2 e0 e1 (f := (f : Int)) (by omega) f1
    -- the step
    have st : ∀ any' fnd' : Int, (any' = 0 ∨ any' = 1) → (any' = 0 → any = 0 ∧ ¬ nam M0 e w (toD M0) f) → (any' = 1 → any = 1 ∨ nam M0 e w (toD M0) f) → (fnd' = -1 ∧ fnd = -1 ∧ ¬ (nam M0 e w (toD M0) f ∧ trn M0 e f = how) ∨ fnd' = fnd ∧ 0 ≤ fnd ∨ fnd = -1 ∧ fnd' = f ∧ nam M0 e w (toD M0) f ∧ trn M0 e f = how) → ∃ any'' fnd'' : Int, (∀ R : am_R, F 238 9 [.ref 219, .int (iI i), .int (iI e), .int (iI hour), .int (iI any''), .int (iI fnd''), .int (iI (2 * nW M0))] [] M = some R → F 238 9 [.ref 219, .int (iI i), .int (iI e), .int (iI hour), .int (iI any'), .int (iI fnd'), .int (iI ((f : Int) + 1))] [] M = some R) ∧ (fnd'' = -1 ∧ (any'' = 0 ∧ Nxt M0 e how w (toD M0) (-2) ∨ any'' = 1 ∧ Nxt M0 e how w (toD M0) (-3)) ∨ 0 ≤ fnd'' ∧ Nxt M0 e how w (toD M0) fnd'') := fun any' fnd' b1 b2 b3 b4 => by
      have r := ih (f + 1) any' fnd' (by omega) b1 (fun h k k0 k1 => by
        obtain ⟨c1, c2⟩ := b2 h
        by_cases ek : k = f
        · rw [ek]; exact c2
        · exact q1 c1 k k0 (by omega)) (fun h => by
        rcases b3 h with c | c
        · obtain ⟨k, k0, k1, k2⟩ := q2 c
          exact ⟨k, k0, by omega, k2⟩
        · exact ⟨f, by omega, by omega, c⟩) (by
        rcases b4 with ⟨c1, c2, c3⟩ | ⟨c1, c2⟩ | ⟨c1, c2, c3⟩
        · refine Or.inl ⟨c1, fun k k0 k1 => ?_⟩
          by_cases ek : k = f
          · rw [ek]; exact c3
          · rcases q3 with ⟨d1, d2⟩ | ⟨d1, d2, d3⟩
            · exact d2 k k0 (by omega)
            · omega
        · rw [c1]
          rcases q3 with ⟨d1, d2⟩ | d
          · omega
          · exact Or.inr d
        · rw [c2]
          rcases q3 with ⟨d1, d2⟩ | ⟨d1, d2⟩
          · exact Or.inr ⟨by omega, c3, d2⟩
          · omega)
      rw [hs] at r
      exact r
    have fr : fnd = -1 ∨ 0 ≤ fnd := by
      rcases q3 with ⟨d1, d2⟩ | ⟨d1, d2⟩
      · exact Or.inl d1
      · exact Or.inr d1.1
    have keep : ¬ nam M0 e w (toD M0) f → ∃ any'' fnd'' : Int, (∀ R : am_R, F 238 9 [.ref 219, .int (iI i), .int (iI e), .int (iI hour), .int (iI any''), .int (iI fnd''), .int (iI (2 * nW M0))] [] M = some R → F 238 9 [.ref 219, .int (iI i), .int (iI e), .int (iI hour), .int (iI any), .int (iI fnd), .int (iI ((f : Int) + 1))] [] M = some R) ∧ (fnd'' = -1 ∧ (any'' = 0 ∧ Nxt M0 e how w (toD M0) (-2) ∨ any'' = 1 ∧ Nxt M0 e how w (toD M0) (-3)) ∨ 0 ≤ fnd'' ∧ Nxt M0 e how w (toD M0) fnd'') := fun nn =>
      st any fnd ha (fun h => ⟨h, nn⟩) (fun h => Or.inl h) (by
        rcases fr with c | c
        · exact Or.inl ⟨c, c, fun h => nn h.1⟩
        · exact Or.inr (Or.inl ⟨rfl, c⟩))
    by_cases qf : fol M0 e f
    · rw [bI_t qf] at fo
      have an := m_answersTo hF hg hA h5 (w := (f : Int) / 2) (wd := w) (kn := toD M0) (by omega) (by omega) w1 w2 (by omega) (by omega)
      by_cases qa : ans M0 ((f : Int) / 2) w (toD M0)
      · rw [bI_t qa] at an
        have nn : nam M0 e w (toD M0) f := ⟨qf, qa⟩
        rcases fr with c | c
        · have tr := m_turned hF hg hA h1 h2 e0 e1 (f := (f : Int)) (by omega) f1
          have tb := trn_b h2 (e := e) (f := (f : Int))
          by_cases qh : trn M0 e f = how
          · obtain ⟨x, y, r1, r2⟩ := st 1 f (Or.inr rfl) (fun h => by omega) (fun _ => Or.inr nn) (Or.inr (Or.inr ⟨c, rfl, nn, qh⟩))
            refine ⟨x, y, fun R hR => ?_, r2⟩
            have r := r1 R hR
            have qh := eq_true qh
            refine s_Model_whyNot_9 hF hg ?_
            simp (config := { maxSteps := 1000000 }) (disch := (first | omega | decide | assumption)) only [ltm_s, ok_n, rd_i, rd_j, fd_i, fd_j, wr_i, wr_j, fw_i, fw_j, ci_s, cj_s, cv_s, dv_n, dw_n, rt_1, rt_b, rt_20, rt_21, okb_0, okb_1, okb_b, nar_0, nar_1, nar_b, i_0, i_1, j_0, j_1, i_lit, j_lit, i_n, iI_add, iI_sub, iI_mul, iI_neg, jI_add, jI_sub, jI_mul, jI_neg, sh_1, an_1, xo_1, di_p, dj_p, i_64A, i_64, j_32, lq_ge, lq_lt, lq_le, lq_gt, lq_eq, i_lt, i_le, i_eq, j_eq, iI_A, jI_J, iI_b, iI_v, jI_v, ↓reduceIte, ite_true, ite_false, Int.reduceEq, Int.reduceLT, Int.reduceLE, Int.reduceAdd, Int.reduceSub, Int.reduceMul, Int.reduceNeg, not_true_eq_false, not_false_eq_true, agA hA, agJA hA, ag hA, v_nJ, v_nW, v_nD, v_toD, v_px, v_py, v_rg, v_kd, v_ft, v_on, v_bg, v_en, @nJ_ M0, @nW_ M0, @nD_ M0, @toD_ M0, @px_ M0, @py_ M0, @rg_ M0, @kd_ M0, @ft_ M0, @on_ M0, bt_, hlt, fo, an, j7, c, tr, a6, qh, r]
          · obtain ⟨x, y, r1, r2⟩ := st 1 (-1) (Or.inr rfl) (fun h => by omega) (fun _ => Or.inr nn) (Or.inl ⟨rfl, c, fun h => qh h.2⟩)
            refine ⟨x, y, fun R hR => ?_, r2⟩
            have r := r1 R hR
            refine s_Model_whyNot_9 hF hg ?_
            simp (config := { maxSteps := 1000000 }) (disch := (first | omega | decide | assumption)) only [ltm_s, ok_n, rd_i, rd_j, fd_i, fd_j, wr_i, wr_j, fw_i, fw_j, ci_s, cj_s, cv_s, dv_n, dw_n, rt_1, rt_b, rt_20, rt_21, okb_0, okb_1, okb_b, nar_0, nar_1, nar_b, i_0, i_1, j_0, j_1, i_lit, j_lit, i_n, iI_add, iI_sub, iI_mul, iI_neg, jI_add, jI_sub, jI_mul, jI_neg, sh_1, an_1, xo_1, di_p, dj_p, i_64A, i_64, j_32, lq_ge, lq_lt, lq_le, lq_gt, lq_eq, i_lt, i_le, i_eq, j_eq, iI_A, jI_J, iI_b, iI_v, jI_v, ↓reduceIte, ite_true, ite_false, Int.reduceEq, Int.reduceLT, Int.reduceLE, Int.reduceAdd, Int.reduceSub, Int.reduceMul, Int.reduceNeg, not_true_eq_false, not_false_eq_true, agA hA, agJA hA, ag hA, v_nJ, v_nW, v_nD, v_toD, v_px, v_py, v_rg, v_kd, v_ft, v_on, v_bg, v_en, @nJ_ M0, @nW_ M0, @nD_ M0, @toD_ M0, @px_ M0, @py_ M0, @rg_ M0, @kd_ M0, @ft_ M0, @on_ M0, bt_, hlt, fo, an, j7, c, tr, a6, qh, r]
        · obtain ⟨x, y, r1, r2⟩ := st 1 fnd (Or.inr rfl) (fun h => by omega) (fun _ => Or.inr nn) (Or.inr (Or.inl ⟨rfl, c⟩))
          refine ⟨x, y, fun R hR => ?_, r2⟩
          have r := r1 R hR
          have c' : ¬ fnd = -1 := by omega
          have cr : fnd < 2 * nW M0 := by
            rcases q3 with ⟨d1, d2⟩ | ⟨d1, d2⟩
            · omega
            · exact d1.2
          refine s_Model_whyNot_9 hF hg ?_
          simp (config := { maxSteps := 1000000 }) (disch := (first | omega | decide | assumption)) only [ltm_s, ok_n, rd_i, rd_j, fd_i, fd_j, wr_i, wr_j, fw_i, fw_j, ci_s, cj_s, cv_s, dv_n, dw_n, rt_1, rt_b, rt_20, rt_21, okb_0, okb_1, okb_b, nar_0, nar_1, nar_b, i_0, i_1, j_0, j_1, i_lit, j_lit, i_n, iI_add, iI_sub, iI_mul, iI_neg, jI_add, jI_sub, jI_mul, jI_neg, sh_1, an_1, xo_1, di_p, dj_p, i_64A, i_64, j_32, lq_ge, lq_lt, lq_le, lq_gt, lq_eq, i_lt, i_le, i_eq, j_eq, iI_A, jI_J, iI_b, iI_v, jI_v, ↓reduceIte, ite_true, ite_false, Int.reduceEq, Int.reduceLT, Int.reduceLE, Int.reduceAdd, Int.reduceSub, Int.reduceMul, Int.reduceNeg, not_true_eq_false, not_false_eq_true, agA hA, agJA hA, ag hA, v_nJ, v_nW, v_nD, v_toD, v_px, v_py, v_rg, v_kd, v_ft, v_on, v_bg, v_en, @nJ_ M0, @nW_ M0, @nD_ M0, @toD_ M0, @px_ M0, @py_ M0, @rg_ M0, @kd_ M0, @ft_ M0, @on_ M0, bt_, hlt, fo, an, j7, c', r]
      · rw [bI_f qa] at an
        obtain ⟨x, y, r1, r2⟩ := keep (fun h => qa h.2)
        refine ⟨x, y, fun R hR => ?_, r2⟩
        have r := r1 R hR
        refine s_Model_whyNot_9 hF hg ?_
        simp (config := { maxSteps := 1000000 }) (disch := (first | omega | decide | assumption)) only [ltm_s, ok_n, rd_i, rd_j, fd_i, fd_j, wr_i, wr_j, fw_i, fw_j, ci_s, cj_s, cv_s, dv_n, dw_n, rt_1, rt_b, rt_20, rt_21, okb_0, okb_1, okb_b, nar_0, nar_1, nar_b, i_0, i_1, j_0, j_1, i_lit, j_lit, i_n, iI_add, iI_sub, iI_mul, iI_neg, jI_add, jI_sub, jI_mul, jI_neg, sh_1, an_1, xo_1, di_p, dj_p, i_64A, i_64, j_32, lq_ge, lq_lt, lq_le, lq_gt, lq_eq, i_lt, i_le, i_eq, j_eq, iI_A, jI_J, iI_b, iI_v, jI_v, ↓reduceIte, ite_true, ite_false, Int.reduceEq, Int.reduceLT, Int.reduceLE, Int.reduceAdd, Int.reduceSub, Int.reduceMul, Int.reduceNeg, not_true_eq_false, not_false_eq_true, agA hA, agJA hA, ag hA, v_nJ, v_nW, v_nD, v_toD, v_px, v_py, v_rg, v_kd, v_ft, v_on, v_bg, v_en, @nJ_ M0, @nW_ M0, @nD_ M0, @toD_ M0, @px_ M0, @py_ M0, @rg_ M0, @kd_ M0, @ft_ M0, @on_ M0, bt_, hlt, fo, an, j7, r]
    · rw [bI_f qf] at fo
      obtain ⟨x, y, r1, r2⟩ := keep (fun h => qf h.1)
      refine ⟨x, y, fun R hR => ?_, r2⟩
      have r := r1 R hR
      refine s_Model_whyNot_9 hF hg ?_
      simp (config := { maxSteps := 1000000 }) (disch := (first | omega | decide | assumption)) only [ltm_s, ok_n, rd_i, rd_j, fd_i, fd_j, wr_i, wr_j, fw_i, fw_j, ci_s, cj_s, cv_s, dv_n, dw_n, rt_1, rt_b, rt_20, rt_21, okb_0, okb_1, okb_b, nar_0, nar_1, nar_b, i_0, i_1, j_0, j_1, i_lit, j_lit, i_n, iI_add, iI_sub, iI_mul, iI_neg, jI_add, jI_sub, jI_mul, jI_neg, sh_1, an_1, xo_1, di_p, dj_p, i_64A, i_64, j_32, lq_ge, lq_lt, lq_le, lq_gt, lq_eq, i_lt, i_le, i_eq, j_eq, iI_A, jI_J, iI_b, iI_v, jI_v, ↓reduceIte, ite_true, ite_false, Int.reduceEq, Int.reduceLT, Int.reduceLE, Int.reduceAdd, Int.reduceSub, Int.reduceMul, Int.reduceNeg, not_true_eq_false, not_false_eq_true, agA hA, agJA hA, ag hA, v_nJ, v_nW, v_nD, v_toD, v_px, v_py, v_rg, v_kd, v_ft, v_on, v_bg, v_en, @nJ_ M0, @nW_ M0, @nD_ M0, @toD_ M0, @px_ M0, @py_ M0, @rg_ M0, @kd_ M0, @ft_ M0, @on_ M0, bt_, hlt, fo, r]
noncomputable section
/-- why not: 2 no such name, 3 no such turn, 4 not usable, 5 not to be turned into -/
def whn (M : am_M) (e hour r : Int) : Int := if r < 0 then -r else if bI (drv M r (toD M) hour (toD M)) = 0 then 4 else if bI (bnd M e r (toD M) hour) = 1 then 5 else 0
end
theorem whn_n {e hour r : Int} (h : r < 0) : whn M e hour r = -r := if_pos h
theorem whn_4 {e hour r : Int} (h : 0 ≤ r) (hd : ¬ drv M r (toD M) hour (toD M)) : whn M e hour r = 4 := by
  unfold whn
  rw [bI_f hd, if_neg (show ¬ r < 0 by omega), if_pos (show (0 : Int) = 0 from rfl)]
theorem whn_5 {e hour r : Int} (h : 0 ≤ r) (hd : drv M r (toD M) hour (toD M)) (hb : bnd M e r (toD M) hour) : whn M e hour r = 5 := by
  unfold whn
  rw [bI_t hd, bI_t hb, if_neg (show ¬ r < 0 by omega), if_neg (show ¬ (1 : Int) = 0 by decide), if_pos (show (1 : Int) = 1 from rfl)]
theorem whn_0 {e hour r : Int} (h : 0 ≤ r) (hd : drv M r (toD M) hour (toD M)) (hb : ¬ bnd M e r (toD M) hour) : whn M e hour r = 0 := by
  unfold whn
  rw [bI_t hd, bI_f hb, if_neg (show ¬ r < 0 by omega), if_neg (show ¬ (1 : Int) = 0 by decide), if_neg (show ¬ (0 : Int) = 1 by decide)]
theorem m_whyNot (hF : F = am_F T0 g) (hg : GG g) (hA : Ag M0 M) (h1 : I1 M0) (h2 : I2 M0) (h5 : I5 M0) (h6 : I6 M0) (h7 : I7 M0) (h8 : I8 M0) {i e how w hour r : Int} (i0 : 1 ≤ i) (i1 : i ≤ 20) (e0 : 0 ≤ e) (e1 : e < 2 * nW M0) (u0 : 0 ≤ how) (u1 : how ≤ 11) (hw : j64 w) (v0 : 0 ≤ hour) (v1 : hour < 24) (j7 : J M 267 (i - 1) = w) (a6 : A M 266 (i - 1) = how) (hr : Nxt M0 e how w (toD M0) r) : ∃ M' : am_M, F 238 0 [.ref 219, .int (iI i), .int (iI e), .int (iI hour)] [] M = some (some (.int (iI (whn M0 e hour r))), M') ∧ M' = if r < 0 then M else W_ M 268 i r := by
  have hn := h2.1
  have tr8 := h8.1
  obtain ⟨any, fnd, o1, o2⟩ := m_wn_l hF hg hA h1 h2 h5 h8 (hour := hour) i0 i1 e0 e1 u0 u1 hw j7 a6 (2 * nW M0).toNat 0 0 (-1) (by omega) (Or.inl rfl) (fun _ h h0 h1' => by omega) (fun h => by omega) (Or.inl ⟨rfl, fun h h0 h1' => by omega⟩)
  have z0 : ((0 : Nat) : Int) = 0 := rfl
  rw [z0] at o1
  have hlt : 2 * nW M0 ≤ 2 * nW M0 := Int.le_refl _
  rcases o2 with ⟨a, b⟩ | ⟨a, b⟩
  · subst a
    rcases b with ⟨c, d⟩ | ⟨c, d⟩
    · subst c
      have er := Nxt_u hr d
      have rn : r < 0 := by omega
      refine ⟨M, ?_, (if_pos rn).symm⟩
      rw [whn_n rn, er]
      refine s_Model_whyNot hF hg ?_
      refine o1 _ ?_
      refine s_Model_whyNot_9 hF hg ?_
      simp (config := { maxSteps := 1000000 }) (disch := (first | omega | decide | assumption)) only [ltm_s, ok_n, rd_i, rd_j, fd_i, fd_j, wr_i, wr_j, fw_i, fw_j, ci_s, cj_s, cv_s, dv_n, dw_n, rt_1, rt_b, rt_20, rt_21, okb_0, okb_1, okb_b, nar_0, nar_1, nar_b, i_0, i_1, j_0, j_1, i_lit, j_lit, i_n, iI_add, iI_sub, iI_mul, iI_neg, jI_add, jI_sub, jI_mul, jI_neg, sh_1, an_1, xo_1, di_p, dj_p, i_64A, i_64, j_32, lq_ge, lq_lt, lq_le, lq_gt, lq_eq, i_lt, i_le, i_eq, j_eq, iI_A, jI_J, iI_b, iI_v, jI_v, ↓reduceIte, ite_true, ite_false, Int.reduceEq, Int.reduceLT, Int.reduceLE, Int.reduceAdd, Int.reduceSub, Int.reduceMul, Int.reduceNeg, not_true_eq_false, not_false_eq_true, agA hA, agJA hA, ag hA, v_nJ, v_nW, v_nD, v_toD, v_px, v_py, v_rg, v_kd, v_ft, v_on, v_bg, v_en, @nJ_ M0, @nW_ M0, @nD_ M0, @toD_ M0, @px_ M0, @py_ M0, @rg_ M0, @kd_ M0, @ft_ M0, @on_ M0, bt_, hlt]
    · subst c
      have er := Nxt_u hr d
      have rn : r < 0 := by omega
      refine ⟨M, ?_, (if_pos rn).symm⟩
      rw [whn_n rn, er]
      refine s_Model_whyNot hF hg ?_
      refine o1 _ ?_
      refine s_Model_whyNot_9 hF hg ?_
      simp (config := { maxSteps := 1000000 }) (disch := (first | omega | decide | assumption)) only [ltm_s, ok_n, rd_i, rd_j, fd_i, fd_j, wr_i, wr_j, fw_i, fw_j, ci_s, cj_s, cv_s, dv_n, dw_n, rt_1, rt_b, rt_20, rt_21, okb_0, okb_1, okb_b, nar_0, nar_1, nar_b, i_0, i_1, j_0, j_1, i_lit, j_lit, i_n, iI_add, iI_sub, iI_mul, iI_neg, jI_add, jI_sub, jI_mul, jI_neg, sh_1, an_1, xo_1, di_p, dj_p, i_64A, i_64, j_32, lq_ge, lq_lt, lq_le, lq_gt, lq_eq, i_lt, i_le, i_eq, j_eq, iI_A, jI_J, iI_b, iI_v, jI_v, ↓reduceIte, ite_true, ite_false, Int.reduceEq, Int.reduceLT, Int.reduceLE, Int.reduceAdd, Int.reduceSub, Int.reduceMul, Int.reduceNeg, not_true_eq_false, not_false_eq_true, agA hA, agJA hA, ag hA, v_nJ, v_nW, v_nD, v_toD, v_px, v_py, v_rg, v_kd, v_ft, v_on, v_bg, v_en, @nJ_ M0, @nW_ M0, @nD_ M0, @toD_ M0, @px_ M0, @py_ M0, @rg_ M0, @kd_ M0, @ft_ M0, @on_ M0, bt_, hlt]
  · have er := Nxt_u hr b
    subst er
    obtain ⟨b1, ⟨⟨bf, -⟩, -⟩, -⟩ := b.1 a
    have rn : ¬ r < 0 := by omega
    obtain ⟨Y, eY⟩ : ∃ y : am_M, y = W_ M 268 i r := ⟨_, rfl⟩
    have hY : Ag M0 Y := by rw [eY]; exact hA.w rfl
    have t14 : A Y 219 14 = toD M0 := ag hY (by decide)
    have di := m_isDrivable hF hg hY h2 h6 (e := r) (day := toD M0) (hour := hour) (kn := toD M0) a b1 (by omega) (by omega) v0 v1 (by omega) (by omega)
    have bn := m_isBanned hF hg hY h7 (e := e) (f := r) (day := toD M0) (hour := hour) (by omega) (by omega) (by omega) (by omega) (by omega) (by omega) v0 v1
    have r1 : ¬ r = -1 := by omega
    refine ⟨Y, ?_, by rw [if_neg rn]; exact eY⟩
    refine s_Model_whyNot hF hg ?_
    refine o1 _ ?_
    refine s_Model_whyNot_9 hF hg ?_
    by_cases qd : drv M0 r (toD M0) hour (toD M0)
    · rw [bI_t qd] at di
      by_cases qb : bnd M0 e r (toD M0) hour
      · rw [whn_5 a qd qb]
        rw [bI_t qb] at bn
        simp (config := { maxSteps := 1000000 }) (disch := (first | omega | decide | assumption)) only [ltm_s, ok_n, rd_i, rd_j, fd_i, fd_j, wr_i, wr_j, fw_i, fw_j, ci_s, cj_s, cv_s, dv_n, dw_n, rt_1, rt_b, rt_20, rt_21, okb_0, okb_1, okb_b, nar_0, nar_1, nar_b, i_0, i_1, j_0, j_1, i_lit, j_lit, i_n, iI_add, iI_sub, iI_mul, iI_neg, jI_add, jI_sub, jI_mul, jI_neg, sh_1, an_1, xo_1, di_p, dj_p, i_64A, i_64, j_32, lq_ge, lq_lt, lq_le, lq_gt, lq_eq, i_lt, i_le, i_eq, j_eq, iI_A, jI_J, iI_b, iI_v, jI_v, ↓reduceIte, ite_true, ite_false, Int.reduceEq, Int.reduceLT, Int.reduceLE, Int.reduceAdd, Int.reduceSub, Int.reduceMul, Int.reduceNeg, not_true_eq_false, not_false_eq_true, agA hA, agJA hA, ag hA, v_nJ, v_nW, v_nD, v_toD, v_px, v_py, v_rg, v_kd, v_ft, v_on, v_bg, v_en, @nJ_ M0, @nW_ M0, @nD_ M0, @toD_ M0, @px_ M0, @py_ M0, @rg_ M0, @kd_ M0, @ft_ M0, @on_ M0, bt_, hlt, r1, eY.symm, t14, di, bn]
      · rw [whn_0 a qd qb]
        rw [bI_f qb] at bn
        simp (config := { maxSteps := 1000000 }) (disch := (first | omega | decide | assumption)) only [ltm_s, ok_n, rd_i, rd_j, fd_i, fd_j, wr_i, wr_j, fw_i, fw_j, ci_s, cj_s, cv_s, dv_n, dw_n, rt_1, rt_b, rt_20, rt_21, okb_0, okb_1, okb_b, nar_0, nar_1, nar_b, i_0, i_1, j_0, j_1, i_lit, j_lit, i_n, iI_add, iI_sub, iI_mul, iI_neg, jI_add, jI_sub, jI_mul, jI_neg, sh_1, an_1, xo_1, di_p, dj_p, i_64A, i_64, j_32, lq_ge, lq_lt, lq_le, lq_gt, lq_eq, i_lt, i_le, i_eq, j_eq, iI_A, jI_J, iI_b, iI_v, jI_v, ↓reduceIte, ite_true, ite_false, Int.reduceEq, Int.reduceLT, Int.reduceLE, Int.reduceAdd, Int.reduceSub, Int.reduceMul, Int.reduceNeg, not_true_eq_false, not_false_eq_true, agA hA, agJA hA, ag hA, v_nJ, v_nW, v_nD, v_toD, v_px, v_py, v_rg, v_kd, v_ft, v_on, v_bg, v_en, @nJ_ M0, @nW_ M0, @nD_ M0, @toD_ M0, @px_ M0, @py_ M0, @rg_ M0, @kd_ M0, @ft_ M0, @on_ M0, bt_, hlt, r1, eY.symm, t14, di, bn]
    · rw [whn_4 a qd]
      rw [bI_f qd] at di
      simp (config := { maxSteps := 1000000 }) (disch := (first | omega | decide | assumption)) only [ltm_s, ok_n, rd_i, rd_j, fd_i, fd_j, wr_i, wr_j, fw_i, fw_j, ci_s, cj_s, cv_s, dv_n, dw_n, rt_1, rt_b, rt_20, rt_21, okb_0, okb_1, okb_b, nar_0, nar_1, nar_b, i_0, i_1, j_0, j_1, i_lit, j_lit, i_n, iI_add, iI_sub, iI_mul, iI_neg, jI_add, jI_sub, jI_mul, jI_neg, sh_1, an_1, xo_1, di_p, dj_p, i_64A, i_64, j_32, lq_ge, lq_lt, lq_le, lq_gt, lq_eq, i_lt, i_le, i_eq, j_eq, iI_A, jI_J, iI_b, iI_v, jI_v, ↓reduceIte, ite_true, ite_false, Int.reduceEq, Int.reduceLT, Int.reduceLE, Int.reduceAdd, Int.reduceSub, Int.reduceMul, Int.reduceNeg, not_true_eq_false, not_false_eq_true, agA hA, agJA hA, ag hA, v_nJ, v_nW, v_nD, v_toD, v_px, v_py, v_rg, v_kd, v_ft, v_on, v_bg, v_en, @nJ_ M0, @nW_ M0, @nD_ M0, @toD_ M0, @px_ M0, @py_ M0, @rg_ M0, @kd_ M0, @ft_ M0, @on_ M0, bt_, hlt, r1, eY.symm, t14, di]
theorem c_whyInto (hF : F = am_F T0 g) (hg : GG g) (h2 : I2 M0) (h8 : I8 M0) {hour : Int} (hs : fset M0 (-1, toD M0, hour, toD M0) M) {e r : Int} (e0 : 0 ≤ e) (e1 : e < 2 * nW M0) (r0 : 0 ≤ r) (r1 : r < 2 * nW M0) (hf : fol M0 e r) : F 100 0 [.ref 32, .int (iI e), .int (iI r)] [] M = some (some (.int (iI (whn M0 e hour r))), M) := by
  have hn := h2.1
  have a33 : A M 33 r = bI (mgo M0 (-1, toD M0, hour, toD M0) r) := hs.2.1 r r0 r1
  have em : mgo M0 (-1, toD M0, hour, toD M0) r = drv M0 r (toD M0) hour (toD M0) := by
    unfold mgo
    exact if_pos rfl
  have ek : mkd M0 (-1, toD M0, hour, toD M0) e r = bnd M0 e r (toD M0) hour := by
    unfold mkd
    exact if_pos rfl
  have mt := c_mayTurn hF hg h2 hs e0 e1 r0 r1 hf.1
  rw [em] at a33
  refine s_Finder_whyNotInto hF hg ?_
  by_cases qd : drv M0 r (toD M0) hour (toD M0)
  · rw [bI_t qd] at a33
    by_cases qb : bnd M0 e r (toD M0) hour
    · rw [whn_5 r0 qd qb]
      rw [bI_f (fun h => by
        obtain ⟨-, -, h3⟩ := h
        rw [ek] at h3
        exact h3.mp qb rfl)] at mt
      simp (config := { maxSteps := 1000000 }) (disch := (first | omega | decide | assumption)) only [ltm_s, ok_n, rd_i, rd_j, fd_i, fd_j, wr_i, wr_j, fw_i, fw_j, ci_s, cj_s, cv_s, dv_n, dw_n, rt_1, rt_b, rt_20, rt_21, okb_0, okb_1, okb_b, nar_0, nar_1, nar_b, i_0, i_1, j_0, j_1, i_lit, j_lit, i_n, iI_add, iI_sub, iI_mul, iI_neg, jI_add, jI_sub, jI_mul, jI_neg, sh_1, an_1, xo_1, di_p, dj_p, i_64A, i_64, j_32, lq_ge, lq_lt, lq_le, lq_gt, lq_eq, i_lt, i_le, i_eq, j_eq, iI_A, jI_J, iI_b, iI_v, jI_v, ↓reduceIte, ite_true, ite_false, Int.reduceEq, Int.reduceLT, Int.reduceLE, Int.reduceAdd, Int.reduceSub, Int.reduceMul, Int.reduceNeg, not_true_eq_false, not_false_eq_true, a33, mt]
    · rw [whn_0 r0 qd qb]
      rw [bI_t (by
        refine ⟨hf, by rw [em]; exact qd, ?_⟩
        rw [ek]
        exact iff_of_false qb (not_not_intro rfl))] at mt
      simp (config := { maxSteps := 1000000 }) (disch := (first | omega | decide | assumption)) only [ltm_s, ok_n, rd_i, rd_j, fd_i, fd_j, wr_i, wr_j, fw_i, fw_j, ci_s, cj_s, cv_s, dv_n, dw_n, rt_1, rt_b, rt_20, rt_21, okb_0, okb_1, okb_b, nar_0, nar_1, nar_b, i_0, i_1, j_0, j_1, i_lit, j_lit, i_n, iI_add, iI_sub, iI_mul, iI_neg, jI_add, jI_sub, jI_mul, jI_neg, sh_1, an_1, xo_1, di_p, dj_p, i_64A, i_64, j_32, lq_ge, lq_lt, lq_le, lq_gt, lq_eq, i_lt, i_le, i_eq, j_eq, iI_A, jI_J, iI_b, iI_v, jI_v, ↓reduceIte, ite_true, ite_false, Int.reduceEq, Int.reduceLT, Int.reduceLE, Int.reduceAdd, Int.reduceSub, Int.reduceMul, Int.reduceNeg, not_true_eq_false, not_false_eq_true, a33, mt]
  · rw [whn_4 r0 qd]
    rw [bI_f qd] at a33
    simp (config := { maxSteps := 1000000 }) (disch := (first | omega | decide | assumption)) only [ltm_s, ok_n, rd_i, rd_j, fd_i, fd_j, wr_i, wr_j, fw_i, fw_j, ci_s, cj_s, cv_s, dv_n, dw_n, rt_1, rt_b, rt_20, rt_21, okb_0, okb_1, okb_b, nar_0, nar_1, nar_b, i_0, i_1, j_0, j_1, i_lit, j_lit, i_n, iI_add, iI_sub, iI_mul, iI_neg, jI_add, jI_sub, jI_mul, jI_neg, sh_1, an_1, xo_1, di_p, dj_p, i_64A, i_64, j_32, lq_ge, lq_lt, lq_le, lq_gt, lq_eq, i_lt, i_le, i_eq, j_eq, iI_A, jI_J, iI_b, iI_v, jI_v, ↓reduceIte, ite_true, ite_false, Int.reduceEq, Int.reduceLT, Int.reduceLE, Int.reduceAdd, Int.reduceSub, Int.reduceMul, Int.reduceNeg, not_true_eq_false, not_false_eq_true, a33]
end Nx
