/-! WHAT IS KEPT OF A SAID RUN, by both -/
noncomputable section
def tws (M : am_M) (a b : Int) (lg : Int → Int) : Nat → Int → Int
  | 0, _ => 0
  | n + 1, s => strg M a b (en M (lg s)) + tws M a b lg n (s + 1)
def fes (M : am_M) (hour : Int) (lg : Int → Int) : Nat → Int → Int
  | 0, _ => 0
  | n + 1, s => (if s ≤ 0 then 0 else prc M (lg s / 2) hour) + fes M hour lg n (s + 1)
end
section Kp
variable {M0 M1 M N X : am_M} {g : am_G} {F : am_FT} {rt : Nat}
theorem tws_r (h1 : I1 M0) (h2 : I2 M0) (h4 : I4 M0) {a b m : Int} {lg : Int → Int} (a0 : 0 ≤ a) (a1 : a < nD M0) (b0 : 0 ≤ b) (b1 : b < nD M0) (hl : ∀ j : Int, 0 ≤ j → j ≤ m → 0 ≤ lg j ∧ lg j < 2 * nW M0) : ∀ (n : Nat) (s : Int), 0 ≤ s → s + n = m → 0 ≤ tws M0 a b lg n s ∧ tws M0 a b lg n s ≤ 20000 * n
  | 0, s, _, _ => ⟨Int.le_refl _, Int.le_refl _⟩
  | n + 1, s, s0, h => by
    obtain ⟨l0, l1⟩ := hl s s0 (by omega)
    have he := en_r h2 l0 l1
    have r := strg_r h1 h2 h4 a0 a1 b0 b1 he.1 he.2
    have ih := tws_r h1 h2 h4 a0 a1 b0 b1 hl n (s + 1) (by omega) (by omega)
    show 0 ≤ strg M0 a b (en M0 (lg s)) + tws M0 a b lg n (s + 1) ∧ strg M0 a b (en M0 (lg s)) + tws M0 a b lg n (s + 1) ≤ 20000 * ((n + 1 : Nat) : Int)
    omega
theorem fes_r (h2 : I2 M0) {hour m : Int} {lg : Int → Int} (v0 : 0 ≤ hour) (v1 : hour < 24) (hl : ∀ j : Int, 0 ≤ j → j ≤ m → 0 ≤ lg j ∧ lg j < 2 * nW M0) : ∀ (n : Nat) (s : Int), 0 ≤ s → s + n = m → 0 ≤ fes M0 hour lg n s ∧ fes M0 hour lg n s ≤ 2400 * n
  | 0, s, _, _ => ⟨Int.le_refl _, Int.le_refl _⟩
  | n + 1, s, s0, h => by
    obtain ⟨l0, l1⟩ := hl s s0 (by omega)
    have r := prc_r h2 (w := lg s / 2) (by omega) (by omega) v0 v1
    have ih := fes_r h2 v0 v1 hl n (s + 1) (by omega) (by omega)
    show 0 ≤ (if s ≤ 0 then 0 else prc M0 (lg s / 2) hour) + fes M0 hour lg n (s + 1) ∧ (if s ≤ 0 then 0 else prc M0 (lg s / 2) hour) + fes M0 hour lg n (s + 1) ≤ 2400 * ((n + 1 : Nat) : Int)
    split <;> omega
theorem sm_strg (h : Sm M X) : strg X = strg M := h.strgE
theorem sm_tws (h : Sm M X) {a b : Int} {lg : Int → Int} : ∀ (n : Nat) (s : Int), tws X a b lg n s = tws M a b lg n s
  | 0, _ => rfl
  | n + 1, s => by
    have hs := h.strgE
    have he := h.enE
    show strg X a b (en X (lg s)) + tws X a b lg n (s + 1) = strg M a b (en M (lg s)) + tws M a b lg n (s + 1)
    rw [hs, he, sm_tws h n (s + 1)]
theorem sm_fes (h : Sm M X) {hour : Int} {lg : Int → Int} : ∀ (n : Nat) (s : Int), fes X hour lg n s = fes M hour lg n s
  | 0, _ => rfl
  | n + 1, s => by
    have hp := h.prcE
    show (if s ≤ 0 then 0 else prc X (lg s / 2) hour) + fes X hour lg n (s + 1) = (if s ≤ 0 then 0 else prc M (lg s / 2) hour) + fes M hour lg n (s + 1)
    rw [hp, sm_fes h n (s + 1)]
theorem c_ms_l (hF : F = am_F T0 g) (hg : GG g) (hr : rok g rt) (h1 : I1 M0) (h2 : I2 M0) (h4 : I4 M0) {a b hour m : Int} {lg : Int → Int} (v0 : 0 ≤ hour) (v1 : hour < 24) (a0 : 0 ≤ a) (a1 : a < nD M0) (b0 : 0 ≤ b) (b1 : b < nD M0) (m1 : m ≤ 20) (hl : ∀ j : Int, 0 ≤ j → j ≤ m → 0 ≤ lg j ∧ lg j < 2 * nW M0) : ∀ (n s : Nat) (t k : Int) (M : am_M), (s : Int) + n = m → Ag M0 M → (∀ j : Int, 0 ≤ j → j < nJ M0 → A M 37 j = strg M0 a b j) → (∀ w : Int, 0 ≤ w → w < nW M0 → A M 34 w = prc M0 w hour) → (∀ j : Int, 0 ≤ j → j ≤ m → A M (rt + 1) j = lg j) → A M rt 6 = t → A M rt 7 = k → (0 ≤ t ∧ t ≤ 20000 * s) → (0 ≤ k ∧ k ≤ 2000 + 2400 * s) →
    ∃ M' : am_M, F 169 110 [.ref 32, .ref rt, .int (iI m), .int (iI (s : Int))] [] M = some (none, M') ∧ Ke [rt] M M' ∧ A M' rt 6 = t + tws M0 a b lg n s ∧ A M' rt 7 = k + fes M0 hour lg n s ∧ ∀ z : Int, 0 ≤ z → z ≠ 6 → z ≠ 7 → A M' rt z = A M rt z := by
  have hn := h2.1
  have hJ := h1.1
  have h42 := hr.2.1
  intro n
  induction n with
  | zero =>
    intro s t k M h hA h37 h34 hleg ht hk bt bk
    have e : (s : Int) = m := by omega
    refine ⟨M, ?_, Ke.refl, by rw [ht]; exact (Int.add_zero t).symm, by rw [hk]; exact (Int.add_zero k).symm, fun z _ _ _ => rfl⟩
    have u : m ≤ (s : Int) := by omega
    refine s_Finder_measure_110 hF hg hr.1 ?_
    simp (config := { maxSteps := 1000000 }) (disch := (first | omega | decide | assumption)) only [ltm_s, ok_n, rd_i, rd_j, fd_i, fd_j, wr_i, wr_j, fw_i, fw_j, ci_s, cj_s, cv_s, dv_n, dw_n, rt_1, rt_b, rt_20, rt_21, okb_0, okb_1, okb_b, nar_0, nar_1, nar_b, i_0, i_1, j_0, j_1, i_lit, j_lit, i_n, iI_add, iI_sub, iI_mul, iI_neg, jI_add, jI_sub, jI_mul, jI_neg, sh_1, an_1, xo_1, di_p, dj_p, i_64A, i_64, j_32, lq_ge, lq_lt, lq_le, lq_gt, lq_eq, i_lt, i_le, i_eq, j_eq, iI_A, jI_J, iI_b, iI_v, jI_v, ↓reduceIte, ite_true, ite_false, Int.reduceEq, Int.reduceLT, Int.reduceLE, Int.reduceAdd, Int.reduceSub, Int.reduceMul, Int.reduceNeg, not_true_eq_false, not_false_eq_true, u]
  | succ n ih =>
    intro s t k M h hA h37 h34 hleg ht hk bt bk
    have hs1 : ((s + 1 : Nat) : Int) = (s : Int) + 1 := by omega
    have u : ¬ m ≤ (s : Int) := by omega
    obtain ⟨l0, l1⟩ := hl s (by omega) (by omega)
    have hlg := hleg s (by omega) (by omega)
    have hen := en_r h2 l0 l1
    have hst := strg_r h1 h2 h4 a0 a1 b0 b1 hen.1 hen.2
    have hpr := prc_r h2 (w := lg s / 2) (by omega) (by omega) v0 v1
    have x37 := h37 _ hen.1 hen.2
    have x34 := h34 (lg s / 2) (by omega) (by omega)
    have eo := c_endOf hF hg hA h2 l0 l1
    obtain ⟨Y, eY⟩ : ∃ y : am_M, y = W_ M rt 6 (t + strg M0 a b (en M0 (lg s))) := ⟨_, rfl⟩
    have kY : Ke [rt] M Y := by rw [eY]; exact Ke.refl.w (by simp)
    have agK : ∀ Z : am_M, Ke [rt] M Z → Ag M0 Z := fun Z hZ => hA.trans (hZ.ag (by show (stN rt && true) = true; rw [hr.2.2.1]; rfl))
    by_cases s0 : (s : Int) ≤ 0
    · obtain ⟨M', q1, q2, q3, q4, q5⟩ := ih (s + 1) (t + strg M0 a b (en M0 (lg s))) k Y (by omega) (agK Y kY) (fun j j0 j1 => by rw [Ke1.a kY (by omega)]; exact h37 j j0 j1) (fun w w0 w1 => by rw [Ke1.a kY (by omega)]; exact h34 w w0 w1) (fun j j0 j1 => by rw [Ke1.a kY (by omega)]; exact hleg j j0 j1) (by rw [eY]; exact A_Ws (by omega) (by omega)) (by rw [eY, A_Wo (by omega) (by omega) (by omega)]; exact hk) (by omega) (by omega)
      rw [hs1] at q1 q3 q4
      refine ⟨M', ?_, kY.trans q2, ?_, ?_, fun z z0 z1 z2 => by rw [q5 z z0 z1 z2, eY, A_Wo (by omega) z0 z1]⟩
      · refine s_Finder_measure_110 hF hg hr.1 ?_
        simp (config := { maxSteps := 1000000 }) (disch := (first | omega | decide | assumption)) only [ltm_s, ok_n, rd_i, rd_j, fd_i, fd_j, wr_i, wr_j, fw_i, fw_j, ci_s, cj_s, cv_s, dv_n, dw_n, rt_1, rt_b, rt_20, rt_21, okb_0, okb_1, okb_b, nar_0, nar_1, nar_b, i_0, i_1, j_0, j_1, i_lit, j_lit, i_n, iI_add, iI_sub, iI_mul, iI_neg, jI_add, jI_sub, jI_mul, jI_neg, sh_1, an_1, xo_1, di_p, dj_p, i_64A, i_64, j_32, lq_ge, lq_lt, lq_le, lq_gt, lq_eq, i_lt, i_le, i_eq, j_eq, iI_A, jI_J, iI_b, iI_v, jI_v, ↓reduceIte, ite_true, ite_false, Int.reduceEq, Int.reduceLT, Int.reduceLE, Int.reduceAdd, Int.reduceSub, Int.reduceMul, Int.reduceNeg, not_true_eq_false, not_false_eq_true, u, hlg, eo, x37, ht, eY.symm, s0, q1]
      · rw [q3]
        show _ = t + (strg M0 a b (en M0 (lg s)) + tws M0 a b lg n (s + 1))
        omega
      · rw [q4]
        show _ = k + ((if (s : Int) ≤ 0 then 0 else prc M0 (lg s / 2) hour) + fes M0 hour lg n (s + 1))
        rw [if_pos s0]
        omega
    · obtain ⟨Z, eZ⟩ : ∃ y : am_M, y = W_ Y rt 7 (k + prc M0 (lg s / 2) hour) := ⟨_, rfl⟩
      have kZ : Ke [rt] M Z := by rw [eZ]; exact kY.w (by simp)
      obtain ⟨M', q1, q2, q3, q4, q5⟩ := ih (s + 1) (t + strg M0 a b (en M0 (lg s))) (k + prc M0 (lg s / 2) hour) Z (by omega) (agK Z kZ) (fun j j0 j1 => by rw [Ke1.a kZ (by omega)]; exact h37 j j0 j1) (fun w w0 w1 => by rw [Ke1.a kZ (by omega)]; exact h34 w w0 w1) (fun j j0 j1 => by rw [Ke1.a kZ (by omega)]; exact hleg j j0 j1) (by rw [eZ, A_Wo (by omega) (by omega) (by omega), eY]; exact A_Ws (by omega) (by omega)) (by rw [eZ]; exact A_Ws (by omega) (by omega)) (by omega) (by omega)
      rw [hs1] at q1 q3 q4
      have y7 : A Y rt 7 = k := by rw [eY, A_Wo (by omega) (by omega) (by omega)]; exact hk
      have yl : A Y (rt + 1) s = lg s := by rw [Ke1.a kY (by omega)]; exact hlg
      have y34 : A Y 34 (lg s / 2) = prc M0 (lg s / 2) hour := by rw [Ke1.a kY (by omega)]; exact x34
      refine ⟨M', ?_, kZ.trans q2, ?_, ?_, fun z z0 z1 z2 => by rw [q5 z z0 z1 z2, eZ, A_Wo (by omega) z0 z2, eY, A_Wo (by omega) z0 z1]⟩
      · refine s_Finder_measure_110 hF hg hr.1 ?_
        simp (config := { maxSteps := 1000000 }) (disch := (first | omega | decide | assumption)) only [ltm_s, ok_n, rd_i, rd_j, fd_i, fd_j, wr_i, wr_j, fw_i, fw_j, ci_s, cj_s, cv_s, dv_n, dw_n, rt_1, rt_b, rt_20, rt_21, okb_0, okb_1, okb_b, nar_0, nar_1, nar_b, i_0, i_1, j_0, j_1, i_lit, j_lit, i_n, iI_add, iI_sub, iI_mul, iI_neg, jI_add, jI_sub, jI_mul, jI_neg, sh_1, an_1, xo_1, di_p, dj_p, i_64A, i_64, j_32, lq_ge, lq_lt, lq_le, lq_gt, lq_eq, i_lt, i_le, i_eq, j_eq, iI_A, jI_J, iI_b, iI_v, jI_v, ↓reduceIte, ite_true, ite_false, Int.reduceEq, Int.reduceLT, Int.reduceLE, Int.reduceAdd, Int.reduceSub, Int.reduceMul, Int.reduceNeg, not_true_eq_false, not_false_eq_true, u, hlg, eo, x37, ht, eY.symm, s0, yl, y34, y7, eZ.symm, q1]
      · rw [q3]
        show _ = t + (strg M0 a b (en M0 (lg s)) + tws M0 a b lg n (s + 1))
        omega
      · rw [q4]
        show _ = k + ((if (s : Int) ≤ 0 then 0 else prc M0 (lg s / 2) hour) + fes M0 hour lg n (s + 1))
        rw [if_neg s0]
        omega
noncomputable section
/-- twists and feet -/
def twT (M : am_M) (a b m : Int) (lg : Int → Int) : Int := tws M a b lg m.toNat 0
def feT (M : am_M) (a b hour m : Int) (lg : Int → Int) : Int := (if m = 0 then ahd_ M a b (lg 0) else fdr M a (lg 0) + tdr M b (lg m)) + fes M hour lg m.toNat 0
end
theorem twT_r (h1 : I1 M0) (h2 : I2 M0) (h4 : I4 M0) {a b m : Int} {lg : Int → Int} (a0 : 0 ≤ a) (a1 : a < nD M0) (b0 : 0 ≤ b) (b1 : b < nD M0) (m0 : 0 ≤ m) (m1 : m ≤ 20) (hl : ∀ j : Int, 0 ≤ j → j ≤ m → 0 ≤ lg j ∧ lg j < 2 * nW M0) : 0 ≤ twT M0 a b m lg ∧ twT M0 a b m lg ≤ 400000 := by
  have r := tws_r h1 h2 h4 a0 a1 b0 b1 hl m.toNat 0 (by omega) (by omega)
  unfold twT
  omega
theorem c_measureS (hF : F = am_F T0 g) (hg : GG g) (hr : rok g rt) (h1 : I1 M0) (h2 : I2 M0) (h4 : I4 M0) {a b hour m : Int} {lg : Int → Int} (v0 : 0 ≤ hour) (v1 : hour < 24) (a0 : 0 ≤ a) (a1 : a < nD M0) (b0 : 0 ≤ b) (b1 : b < nD M0) (m0 : 0 ≤ m) (m1 : m ≤ 20) (hD : Drv M0 a b m lg) (hE : lg m / 2 = A M0 228 b) (hA : Ag M0 M) (h34 : ∀ w : Int, 0 ≤ w → w < nW M0 → A M 34 w = prc M0 w hour) (hL : A M rt 5 = m + 1) (ha : A M rt 0 = a) (hb : A M rt 1 = b) (hleg : ∀ j : Int, 0 ≤ j → j ≤ m → A M (rt + 1) j = lg j) :
    ∃ M' : am_M, F 169 0 [.ref 32, .ref rt] [] M = some (none, M') ∧ Ke [37, rt, rt + 1] M M' ∧ A M' rt 6 = twT M0 a b m lg ∧ A M' rt 7 = feT M0 a b hour m lg ∧ (∀ z : Int, A M' (rt + 1) z = A M (rt + 1) z) ∧ ∀ z : Int, 0 ≤ z → z ≠ 6 → z ≠ 7 → A M' rt z = A M rt z := by
  have hn := h2.1
  have hJ := h1.1
  have hd := h4.1
  have h42 := hr.2.1
  obtain ⟨d1, d2, d3⟩ := hD
  obtain ⟨l0, l1⟩ := d1 0 (by omega) m0
  unfold twT feT
  by_cases q : m = 0
  · subst q
    have e0 : A M (rt + 1) 0 = lg 0 := hleg 0 (by omega) (by omega)
    obtain ⟨M', r1, r2, r3, r4, r5⟩ := c_measure1 hF hg hr h1 h2 h4 a0 a1 b0 b1 hA (by rw [hL]; rfl) ha hb e0 l0 l1
    refine ⟨M', r1, r2, r3, ?_, r5⟩
    rw [if_pos rfl, r4]
    exact (Int.add_zero _).symm
  · rw [if_neg q]
    obtain ⟨t0, t1⟩ := d1 m m0 (Int.le_refl _)
    obtain ⟨N1, q1, k1, s1⟩ := c_stretchString hF hg hA h1 h2 h4 a0 a1 b0 b1
    have A1 : Ag M0 N1 := hA.trans (k1.ag (by decide))
    have kr : ∀ z : Int, A N1 rt z = A M rt z := fun z => k1.a (by simp only [List.mem_cons, List.not_mem_nil, or_false]; omega)
    have kr1 : ∀ z : Int, A N1 (rt + 1) z = A M (rt + 1) z := fun z => k1.a (by simp only [List.mem_cons, List.not_mem_nil, or_false]; omega)
    obtain ⟨Y, eY⟩ : ∃ y : am_M, y = W_ N1 rt 6 0 := ⟨_, rfl⟩
    have kY : Ke [rt] N1 Y := by rw [eY]; exact Ke.refl.w (by simp)
    have agK : ∀ Z : am_M, Ke [rt] N1 Z → Ag M0 Z := fun Z hZ => A1.trans (hZ.ag (by show (stN rt && true) = true; rw [hr.2.2.1]; rfl))
    have fte := c_feetToEnd hF hg (agK Y kY) h2 h4 l0 l1 a0 a1 d3
    have ffs := c_feetFromStart hF hg (agK Y kY) h2 h4 t0 t1 b0 b1 hE
    have rfd := fdr_r h2 h4 (b := a) (f := lg 0) a0 a1
    have rtd := tdr_r h2 h4 (b := b) (f := lg m) b0 b1
    obtain ⟨Z, eZ⟩ : ∃ y : am_M, y = W_ Y rt 7 (fdr M0 a (lg 0) + tdr M0 b (lg m)) := ⟨_, rfl⟩
    have kZ : Ke [rt] N1 Z := by rw [eZ]; exact kY.w (by simp)
    have x1 : A Y (rt + 1) 0 = lg 0 := by rw [Ke1.a kY (by omega), kr1]; exact hleg 0 (by omega) m0
    have x2 : A Y rt 0 = a := by rw [eY, A_Wo (by omega) (by omega) (by omega), kr]; exact ha
    have x3 : A Y rt 1 = b := by rw [eY, A_Wo (by omega) (by omega) (by omega), kr]; exact hb
    have x4 : A Y (rt + 1) m = lg m := by rw [Ke1.a kY (by omega), kr1]; exact hleg m m0 (Int.le_refl _)
    obtain ⟨M', p1, p2, p3, p4, p5⟩ := c_ms_l hF hg hr h1 h2 h4 v0 v1 a0 a1 b0 b1 m1 d1 m.toNat 0 0 (fdr M0 a (lg 0) + tdr M0 b (lg m)) Z (by omega) (agK Z kZ) (fun j j0 j1 => by rw [Ke1.a kZ (by omega)]; exact s1 j j0 j1) (fun w w0 w1 => by rw [Ke1.a kZ (by omega), k1.a (by decide)]; exact h34 w w0 w1) (fun j j0 j1 => by rw [Ke1.a kZ (by omega), kr1]; exact hleg j j0 j1) (by rw [eZ, A_Wo (by omega) (by omega) (by omega), eY]; exact A_Ws (by omega) (by omega)) (by rw [eZ]; exact A_Ws (by omega) (by omega)) (by omega) (by omega)
    have z0 : ((0 : Nat) : Int) = 0 := rfl
    rw [z0] at p1 p3 p4
    refine ⟨M', ?_, (k1.mono (by simp)).trans ((kZ.trans p2).mono (by simp)), ?_, p4, fun z => ?_, fun z z0 z1 z2 => ?_⟩
    · have em : m + 1 - 1 = m := by omega
      have l2 : 0 ≤ m := m0
      refine s_Finder_measure hF hg hr.1 ?_
      simp (config := { maxSteps := 1000000 }) (disch := (first | omega | decide | assumption)) only [ltm_s, ok_n, rd_i, rd_j, fd_i, fd_j, wr_i, wr_j, fw_i, fw_j, ci_s, cj_s, cv_s, dv_n, dw_n, rt_1, rt_b, rt_20, rt_21, okb_0, okb_1, okb_b, nar_0, nar_1, nar_b, i_0, i_1, j_0, j_1, i_lit, j_lit, i_n, iI_add, iI_sub, iI_mul, iI_neg, jI_add, jI_sub, jI_mul, jI_neg, sh_1, an_1, xo_1, di_p, dj_p, i_64A, i_64, j_32, lq_ge, lq_lt, lq_le, lq_gt, lq_eq, i_lt, i_le, i_eq, j_eq, iI_A, jI_J, iI_b, iI_v, jI_v, ↓reduceIte, ite_true, ite_false, Int.reduceEq, Int.reduceLT, Int.reduceLE, Int.reduceAdd, Int.reduceSub, Int.reduceMul, Int.reduceNeg, not_true_eq_false, not_false_eq_true, hL, em, l2, ha, hb, q1, eY.symm, q, x1, x2, x3, x4, fte, ffs, eZ.symm, p1]
    · rw [p3]; omega
    · rw [Ke1.a p2 (by omega), Ke1.a kZ (by omega), kr1]
    · rw [p5 z z0 z1 z2, eZ, A_Wo (by omega) z0 z2, eY, A_Wo (by omega) z0 z1, kr]
-- the model
theorem ofv_strg {a b : Int} (h67 : A M 219 67 = px M (A M 224 (A M 228 a))) (h68 : A M 219 68 = py M (A M 224 (A M 228 a))) (h69 : A M 219 69 = px M (A M 224 (A M 228 b))) (h70 : A M 219 70 = py M (A M 224 (A M 228 b))) {e : Int} : ofv M M e = strg M a b (en M e) := by
  have ea : ∀ w : Int, bg M (2 * w) = A M 224 w := fun w => by
    unfold bg
    rw [if_pos (by omega), show 2 * w / 2 = w by omega]
  unfold ofv strg
  rw [h67, h68, h69, h70, ea, ea]
theorem m_ks_l (hF : F = am_F T0 g) (hg : GG g) (h1 : I1 M1) (h2 : I2 M1) (h4 : I4 M1) (h8 : I8 M1) {a b hour m R : Int} {lg : Int → Int} (v0 : 0 ≤ hour) (v1 : hour < 24) (a0 : 0 ≤ a) (a1 : a < nD M1) (b0 : 0 ≤ b) (b1 : b < nD M1) (m0 : 0 ≤ m) (m1 : m ≤ 20) (R0 : 0 ≤ R) (R1 : R < 10) (hl : ∀ j : Int, 0 ≤ j → j ≤ m → 0 ≤ lg j ∧ lg j < 2 * nW M1) : ∀ (n s : Nat) (t k : Int) (X : am_M), (s : Int) + n = m → Ch [247, 248, 249, 268] [(219, 37), (219, 67), (219, 68), (219, 69), (219, 70)] M1 X → A X 219 37 = R → A X 219 78 = m → (∀ j : Int, 0 ≤ j → j ≤ m → A X 268 j = lg j) → A X 219 67 = px M1 (A M1 224 (A M1 228 a)) → A X 219 68 = py M1 (A M1 224 (A M1 228 a)) → A X 219 69 = px M1 (A M1 224 (A M1 228 b)) → A X 219 70 = py M1 (A M1 224 (A M1 228 b)) → (∀ j : Int, 0 ≤ j → j < (s : Int) → A X 248 (21 * R + j) = lg j) → (0 ≤ t ∧ t ≤ 20000 * s) → (-1 ≤ k ∧ k ≤ 2000 + 2400 * s) →
    ∃ Y : am_M, F 186 138 [.ref 219, .int (iI a), .int (iI b), .int (iI hour), .long (jI t), .long (jI k), .int (iI (s : Int))] [] X = some (none, Y) ∧ Ch [247, 248, 249] [(219, 37)] X Y ∧ A Y 219 37 = R + 1 ∧ A Y 247 R = m + 1 ∧ (A Y 249 (6 * R) = a ∧ A Y 249 (6 * R + 1) = b ∧ A Y 249 (6 * R + 2) = toD M1 ∧ A Y 249 (6 * R + 3) = hour ∧ A Y 249 (6 * R + 4) = k + fes M1 hour lg n s ∧ A Y 249 (6 * R + 5) = t + tws M1 a b lg n s) ∧ (∀ j : Int, 0 ≤ j → j ≤ m → A Y 248 (21 * R + j) = lg j) ∧ (∀ z : Int, 0 ≤ z → ¬ z = R → A Y 247 z = A X 247 z) ∧ (∀ z : Int, 0 ≤ z → z < 21 * R → A Y 248 z = A X 248 z) ∧ ∀ z : Int, 0 ≤ z → z < 6 * R → A Y 249 z = A X 249 z := by
  have hn := h2.1
  have hJ := h1.1
  have hd := h4.1
  have ht8 := h8.1
  intro n
  induction n with
  | zero =>
    intro s t k X h c h37 h78 h68 f67 f68 f69 f70 done bt bk
    have es : (s : Int) = m := by omega
    rw [es] at done bt bk ⊢
    have c0 : 0 ≤ 21 * R + m := by omega
    obtain ⟨X1, e1⟩ : ∃ y : am_M, y = W_ X 248 (21 * R + m) (lg m) := ⟨_, rfl⟩
    obtain ⟨X2, e2⟩ : ∃ y : am_M, y = W_ X1 247 R (m + 1) := ⟨_, rfl⟩
    obtain ⟨X3, e3⟩ : ∃ y : am_M, y = W_ X2 249 (6 * R) a := ⟨_, rfl⟩
    obtain ⟨X4, e4⟩ : ∃ y : am_M, y = W_ X3 249 (6 * R + 1) b := ⟨_, rfl⟩
    obtain ⟨X5, e5⟩ : ∃ y : am_M, y = W_ X4 249 (6 * R + 2) (toD M1) := ⟨_, rfl⟩
    obtain ⟨X6, e6⟩ : ∃ y : am_M, y = W_ X5 249 (6 * R + 3) hour := ⟨_, rfl⟩
    obtain ⟨X7, e7⟩ : ∃ y : am_M, y = W_ X6 249 (6 * R + 4) k := ⟨_, rfl⟩
    obtain ⟨X8, e8⟩ : ∃ y : am_M, y = W_ X7 249 (6 * R + 5) t := ⟨_, rfl⟩
    obtain ⟨Y, e9⟩ : ∃ y : am_M, y = W_ X8 219 37 (R + 1) := ⟨_, rfl⟩
    have c1 : Ch [247, 248, 249] [(219, 37)] X X1 := by rw [e1]; exact Ch.refl.wm (Or.inl (by decide))
    have c2 : Ch [247, 248, 249] [] X X2 := by rw [e2, e1]; exact (Ch.refl.wm (Or.inl (by decide))).wm (Or.inl (by decide))
    have c4 : Ch [247, 248, 249] [] X X4 := by rw [e4, e3]; exact (c2.wm (Or.inl (by decide))).wm (Or.inl (by decide))
    have c8 : Ch [247, 248, 249] [] X X8 := by rw [e8, e7, e6, e5]; exact (((c4.wm (Or.inl (by decide))).wm (Or.inl (by decide))).wm (Or.inl (by decide))).wm (Or.inl (by decide))
    have c9 : Ch [247, 248, 249] [(219, 37)] X Y := by rw [e9]; exact (c8.mono rfl).wm (Or.inr (by decide))
    have g37 : A X1 219 37 = R := (by rw [e1, A_Wn (by decide)]; exact h37)
    have g78 : A X1 219 78 = m := (by rw [e1, A_Wn (by decide)]; exact h78)
    have k37 : A X2 219 37 = R := (c2.f (a := 219) (z := 37) rfl).trans h37
    have k14 : A X4 219 14 = toD M1 := ((c4.f (a := 219) (z := 14) rfl).trans (c.f (a := 219) (z := 14) rfl))
    have k8 : A X8 219 37 = R := (c8.f (a := 219) (z := 37) rfl).trans h37
    have r37 : A X2 219 37 = R := k37
    have um : ¬ m < m := by omega
    have um2 : m < m + 1 := by omega
    have hl68 := h68 m m0 (Int.le_refl _)
    have r9 : ∀ z : Int, A Y 249 z = A X8 249 z := fun z => by rw [e9, A_Wn (by decide)]
    have tz : tws M1 a b lg 0 m = 0 := rfl
    have fz : fes M1 hour lg 0 m = 0 := rfl
    have o249 : ∀ z : Int, 0 ≤ z → z < 6 * R → A Y 249 z = A X 249 z := fun z z0 z1 => by
      rw [r9, e8, A_Wo (by omega) z0 (by omega), e7, A_Wo (by omega) z0 (by omega), e6, A_Wo (by omega) z0 (by omega), e5, A_Wo (by omega) z0 (by omega), e4, A_Wo (by omega) z0 (by omega), e3, A_Wo (by omega) z0 (by omega), e2, A_Wn (by decide), e1, A_Wn (by decide)]
    have o248 : ∀ z : Int, A Y 248 z = A X1 248 z := fun z => by
      rw [e9, A_Wn (by decide), e8, A_Wn (by decide), e7, A_Wn (by decide), e6, A_Wn (by decide), e5, A_Wn (by decide), e4, A_Wn (by decide), e3, A_Wn (by decide), e2, A_Wn (by decide)]
    have o247 : ∀ z : Int, A Y 247 z = A X2 247 z := fun z => by
      rw [e9, A_Wn (by decide), e8, A_Wn (by decide), e7, A_Wn (by decide), e6, A_Wn (by decide), e5, A_Wn (by decide), e4, A_Wn (by decide), e3, A_Wn (by decide)]
    refine ⟨Y, ?_, c9, by rw [e9]; exact A_Ws (by omega) (by omega), by rw [o247, e2]; exact A_Ws (by omega) (by omega), ⟨?_, ?_, ?_, ?_, ?_, ?_⟩, fun j j0 j1 => ?_, fun z z0 z1 => by rw [o247, e2, A_Wo (by omega) z0 z1, e1, A_Wn (by decide)], fun z z0 z1 => by rw [o248, e1, A_Wo (by omega) z0 (by omega)], o249⟩
    · -- the last round
      have last : ∀ (t' k' : Int), t' = t → k' = k → F 186 138 [.ref 219, .int (iI a), .int (iI b), .int (iI hour), .long (jI t'), .long (jI k'), .int (iI (m + 1))] [] X1 = some (none, Y) := fun t' k' et ek => by
        rw [et, ek]
        refine s_Model_keepsSaid_138 hF hg ?_
        simp (config := { maxSteps := 1000000 }) (disch := (first | omega | decide | assumption)) only [ltm_s, ok_n, rd_i, rd_j, fd_i, fd_j, wr_i, wr_j, fw_i, fw_j, ci_s, cj_s, cv_s, dv_n, dw_n, rt_1, rt_b, rt_20, rt_21, okb_0, okb_1, okb_b, nar_0, nar_1, nar_b, i_0, i_1, j_0, j_1, i_lit, j_lit, i_n, iI_add, iI_sub, iI_mul, iI_neg, jI_add, jI_sub, jI_mul, jI_neg, sh_1, an_1, xo_1, di_p, dj_p, i_64A, i_64, j_32, lq_ge, lq_lt, lq_le, lq_gt, lq_eq, i_lt, i_le, i_eq, j_eq, iI_A, jI_J, iI_b, iI_v, jI_v, ↓reduceIte, ite_true, ite_false, Int.reduceEq, Int.reduceLT, Int.reduceLE, Int.reduceAdd, Int.reduceSub, Int.reduceMul, Int.reduceNeg, not_true_eq_false, not_false_eq_true, g78, um2, g37, e2.symm, k37, e3.symm, e4.symm, k14, e5.symm, e6.symm, e7.symm, e8.symm, k8, e9.symm]
      have l1 := last (t + 0) (k + 0) (Int.add_zero t) (Int.add_zero k)
      refine s_Model_keepsSaid_138 hF hg ?_
      by_cases z0 : m ≤ 0
      · have um3 : m ≤ m := Int.le_refl _
        simp (config := { maxSteps := 1000000 }) (disch := (first | omega | decide | assumption)) only [ltm_s, ok_n, rd_i, rd_j, fd_i, fd_j, wr_i, wr_j, fw_i, fw_j, ci_s, cj_s, cv_s, dv_n, dw_n, rt_1, rt_b, rt_20, rt_21, okb_0, okb_1, okb_b, nar_0, nar_1, nar_b, i_0, i_1, j_0, j_1, i_lit, j_lit, i_n, iI_add, iI_sub, iI_mul, iI_neg, jI_add, jI_sub, jI_mul, jI_neg, sh_1, an_1, xo_1, di_p, dj_p, i_64A, i_64, j_32, lq_ge, lq_lt, lq_le, lq_gt, lq_eq, i_lt, i_le, i_eq, j_eq, iI_A, jI_J, iI_b, iI_v, jI_v, ↓reduceIte, ite_true, ite_false, Int.reduceEq, Int.reduceLT, Int.reduceLE, Int.reduceAdd, Int.reduceSub, Int.reduceMul, Int.reduceNeg, not_true_eq_false, not_false_eq_true, h78, um, h37, hl68, e1.symm, g78, um3, z0, l1]
      · have um3 : m ≤ m := Int.le_refl _
        simp (config := { maxSteps := 1000000 }) (disch := (first | omega | decide | assumption)) only [ltm_s, ok_n, rd_i, rd_j, fd_i, fd_j, wr_i, wr_j, fw_i, fw_j, ci_s, cj_s, cv_s, dv_n, dw_n, rt_1, rt_b, rt_20, rt_21, okb_0, okb_1, okb_b, nar_0, nar_1, nar_b, i_0, i_1, j_0, j_1, i_lit, j_lit, i_n, iI_add, iI_sub, iI_mul, iI_neg, jI_add, jI_sub, jI_mul, jI_neg, sh_1, an_1, xo_1, di_p, dj_p, i_64A, i_64, j_32, lq_ge, lq_lt, lq_le, lq_gt, lq_eq, i_lt, i_le, i_eq, j_eq, iI_A, jI_J, iI_b, iI_v, jI_v, ↓reduceIte, ite_true, ite_false, Int.reduceEq, Int.reduceLT, Int.reduceLE, Int.reduceAdd, Int.reduceSub, Int.reduceMul, Int.reduceNeg, not_true_eq_false, not_false_eq_true, h78, um, h37, hl68, e1.symm, g78, um3, z0, l1]
    · rw [r9, e8, A_Wo (by omega) (by omega) (by omega), e7, A_Wo (by omega) (by omega) (by omega), e6, A_Wo (by omega) (by omega) (by omega), e5, A_Wo (by omega) (by omega) (by omega), e4, A_Wo (by omega) (by omega) (by omega), e3]
      exact A_Ws (by omega) (by omega)
    · rw [r9, e8, A_Wo (by omega) (by omega) (by omega), e7, A_Wo (by omega) (by omega) (by omega), e6, A_Wo (by omega) (by omega) (by omega), e5, A_Wo (by omega) (by omega) (by omega), e4]
      exact A_Ws (by omega) (by omega)
    · rw [r9, e8, A_Wo (by omega) (by omega) (by omega), e7, A_Wo (by omega) (by omega) (by omega), e6, A_Wo (by omega) (by omega) (by omega), e5]
      exact A_Ws (by omega) (by omega)
    · rw [r9, e8, A_Wo (by omega) (by omega) (by omega), e7, A_Wo (by omega) (by omega) (by omega), e6]
      exact A_Ws (by omega) (by omega)
    · rw [r9, e8, A_Wo (by omega) (by omega) (by omega), e7, fz, Int.add_zero]
      exact A_Ws (by omega) (by omega)
    · rw [r9, e8, tz, Int.add_zero]
      exact A_Ws (by omega) (by omega)
    · rw [o248, e1]
      by_cases z : j = m
      · rw [z]; exact A_Ws (by have := hl m m0 (Int.le_refl _); omega) (by have := hl m m0 (Int.le_refl _); omega)
      · rw [A_Wo (by omega) (by omega) (by omega)]; exact done j j0 (by omega)
  | succ n ih =>
    intro s t k X h c h37 h78 h68 f67 f68 f69 f70 done bt bk
    have hs1 : ((s + 1 : Nat) : Int) = (s : Int) + 1 := by omega
    obtain ⟨l0, l1⟩ := hl s (by omega) (by omega)
    have hl68 := h68 s (by omega) (by omega)
    obtain ⟨X1, e1⟩ : ∃ y : am_M, y = W_ X 248 (21 * R + s) (lg s) := ⟨_, rfl⟩
    have c1 : Ch [247, 248, 249, 268] [(219, 37), (219, 67), (219, 68), (219, 69), (219, 70)] M1 X1 := by rw [e1]; exact c.wm (Or.inl (by decide))
    have d1 : Ch [247, 248, 249] [] X X1 := by rw [e1]; exact Ch.refl.wm (Or.inl (by decide))
    have sm : Sm M1 X1 := c1.sm rfl
    have g37 : A X1 219 37 = R := (d1.f (a := 219) (z := 37) rfl).trans h37
    have g78 : A X1 219 78 = m := (d1.f (a := 219) (z := 78) rfl).trans h78
    have g68 : A X1 268 s = lg s := (d1.a rfl).trans hl68
    have k67 : A X1 219 67 = px M1 (A M1 224 (A M1 228 a)) := (d1.f (a := 219) (z := 67) rfl).trans f67
    have k68 : A X1 219 68 = py M1 (A M1 224 (A M1 228 a)) := (d1.f (a := 219) (z := 68) rfl).trans f68
    have k69 : A X1 219 69 = px M1 (A M1 224 (A M1 228 b)) := (d1.f (a := 219) (z := 69) rfl).trans f69
    have k70 : A X1 219 70 = py M1 (A M1 224 (A M1 228 b)) := (d1.f (a := 219) (z := 70) rfl).trans f70
    have i1 : I1 X1 := c1.i1 rfl h1
    have i2 : I2 X1 := c1.i2 rfl h2
    have nWe := sm.nWE
    have ene := sm.enE
    have ste := sm.strgE
    have pre := sm.prcE
    have e220 : ∀ z : Int, A X1 220 z = A M1 220 z := fun z => c1.a rfl
    have e221 : ∀ z : Int, A X1 221 z = A M1 221 z := fun z => c1.a rfl
    have e224 : ∀ z : Int, A X1 224 z = A M1 224 z := fun z => c1.a rfl
    have e228 : ∀ z : Int, A X1 228 z = A M1 228 z := fun z => c1.a rfl
    have wa := (h4.2.2 a a0 a1).1
    have wb := (h4.2.2 b b0 b1).1
    have bga : ∀ w : Int, 0 ≤ w → w < nW M1 → 0 ≤ A M1 224 w ∧ A M1 224 w < nJ M1 := fun w w0 w1 => by
      have u := (h2.2.2.2 (2 * w) (by omega) (by omega)).1
      unfold bg at u
      rw [if_pos (by omega), show 2 * w / 2 = w by omega] at u
      exact u
    have ga := bga _ wa.1 wa.2
    have gb := bga _ wb.1 wb.2
    have pa := h1.2.2.1 _ ga.1 ga.2
    have pb := h1.2.2.1 _ gb.1 gb.2
    have cs : cset X1 := by
      unfold cset
      rw [k67, k68, k69, k70]
      exact ⟨pa.1, pa.2.1, pb.1, pb.2.1⟩
    have of := m_off hF hg (Ag.refl X1) i1 i2 cs (e := lg s) l0 (by rw [nWe]; exact l1)
    have pxe : ∀ j : Int, px X1 j = px M1 j := fun j => e220 j
    have pye : ∀ j : Int, py X1 j = py M1 j := fun j => e221 j
    rw [ofv_strg (a := a) (b := b) (by rw [k67, e228, e224, pxe]) (by rw [k68, e228, e224, pye]) (by rw [k69, e228, e224, pxe]) (by rw [k70, e228, e224, pye]), ste, ene] at of
    have hen := en_r h2 l0 l1
    have hst := strg_r h1 h2 h4 a0 a1 b0 b1 hen.1 hen.2
    have po := m_priceOf hF hg (Ag.refl X1) i2 (w := lg s / 2) (h := hour) (by omega) (by rw [nWe]; omega) v0 v1
    rw [pre] at po
    have hpr := prc_r h2 (w := lg s / 2) (by omega) (by omega) v0 v1
    have um : ¬ m < (s : Int) := by omega
    have um2 : ¬ m ≤ (s : Int) := by omega
    obtain ⟨f', ef⟩ : ∃ f' : Int, f' = (if (s : Int) ≤ 0 then 0 else prc M1 (lg s / 2) hour) := ⟨_, rfl⟩
    have fr : 0 ≤ f' ∧ f' ≤ 2400 := by rw [ef]; split <;> omega
    obtain ⟨Y, y1, y2, y3, y4, y5, y6, y7, y8, y9⟩ := ih (s + 1) (t + strg M1 a b (en M1 (lg s))) (k + f') X1 (by omega) c1 g37 g78 (fun j j0 j1 => (d1.a rfl).trans (h68 j j0 j1)) k67 k68 k69 k70 (fun j j0 j1 => by
      rw [e1]
      by_cases z : j = s
      · rw [z]; exact A_Ws (by omega) (by omega)
      · rw [A_Wo (by omega) (by omega) (by omega)]; exact done j j0 (by omega)) (by omega) (by omega)
    rw [hs1] at y1 y5
    have ft' : k + f' + fes M1 hour lg n (s + 1) = k + fes M1 hour lg (n + 1) s := by
      show _ = k + ((if (s : Int) ≤ 0 then 0 else prc M1 (lg s / 2) hour) + fes M1 hour lg n (s + 1))
      rw [← ef]; omega
    have tt' : t + strg M1 a b (en M1 (lg s)) + tws M1 a b lg n (s + 1) = t + tws M1 a b lg (n + 1) s := by
      show _ = t + (strg M1 a b (en M1 (lg s)) + tws M1 a b lg n (s + 1))
      omega
    rw [ft', tt'] at y5
    refine ⟨Y, ?_, (d1.mono rfl).trans y2, y3, y4, y5, y6, fun z z0 z1 => by rw [y7 z z0 z1, e1, A_Wn (by decide)], fun z z0 z1 => by rw [y8 z z0 z1, e1, A_Wo (by omega) z0 (by omega)], fun z z0 z1 => by rw [y9 z z0 z1, e1, A_Wn (by decide)]⟩
    refine s_Model_keepsSaid_138 hF hg ?_
    by_cases z0 : (s : Int) ≤ 0
    · rw [if_pos z0] at ef
      subst ef
      simp (config := { maxSteps := 1000000 }) (disch := (first | omega | decide | assumption)) only [ltm_s, ok_n, rd_i, rd_j, fd_i, fd_j, wr_i, wr_j, fw_i, fw_j, ci_s, cj_s, cv_s, dv_n, dw_n, rt_1, rt_b, rt_20, rt_21, okb_0, okb_1, okb_b, nar_0, nar_1, nar_b, i_0, i_1, j_0, j_1, i_lit, j_lit, i_n, iI_add, iI_sub, iI_mul, iI_neg, jI_add, jI_sub, jI_mul, jI_neg, sh_1, an_1, xo_1, di_p, dj_p, i_64A, i_64, j_32, lq_ge, lq_lt, lq_le, lq_gt, lq_eq, i_lt, i_le, i_eq, j_eq, iI_A, jI_J, iI_b, iI_v, jI_v, ↓reduceIte, ite_true, ite_false, Int.reduceEq, Int.reduceLT, Int.reduceLE, Int.reduceAdd, Int.reduceSub, Int.reduceMul, Int.reduceNeg, not_true_eq_false, not_false_eq_true, h78, um, h37, hl68, e1.symm, g78, um2, g68, of, z0, y1]
    · rw [if_neg z0] at ef
      subst ef
      simp (config := { maxSteps := 1000000 }) (disch := (first | omega | decide | assumption)) only [ltm_s, ok_n, rd_i, rd_j, fd_i, fd_j, wr_i, wr_j, fw_i, fw_j, ci_s, cj_s, cv_s, dv_n, dw_n, rt_1, rt_b, rt_20, rt_21, okb_0, okb_1, okb_b, nar_0, nar_1, nar_b, i_0, i_1, j_0, j_1, i_lit, j_lit, i_n, iI_add, iI_sub, iI_mul, iI_neg, jI_add, jI_sub, jI_mul, jI_neg, sh_1, an_1, xo_1, di_p, dj_p, i_64A, i_64, j_32, lq_ge, lq_lt, lq_le, lq_gt, lq_eq, i_lt, i_le, i_eq, j_eq, iI_A, jI_J, iI_b, iI_v, jI_v, ↓reduceIte, ite_true, ite_false, Int.reduceEq, Int.reduceLT, Int.reduceLE, Int.reduceAdd, Int.reduceSub, Int.reduceMul, Int.reduceNeg, not_true_eq_false, not_false_eq_true, h78, um, h37, hl68, e1.symm, g78, um2, g68, of, z0, po, y1]
theorem m_keepsSaid (hF : F = am_F T0 g) (hg : GG g) (h1 : I1 M) (h2 : I2 M) (h4 : I4 M) (h8 : I8 M) {a b hour m R : Int} {lg : Int → Int} (v0 : 0 ≤ hour) (v1 : hour < 24) (a0 : 0 ≤ a) (a1 : a < nD M) (b0 : 0 ≤ b) (b1 : b < nD M) (m0 : 0 ≤ m) (m1 : m ≤ 20) (R0 : 0 ≤ R) (R1 : R < 10) (hD : Drv M a b m lg) (hE : lg m / 2 = A M 228 b) (hZ : m = 0 → 0 < ahd_ M a b (lg 0)) (h37 : A M 219 37 = R) (h78 : A M 219 78 = m) (h68 : ∀ j : Int, 0 ≤ j → j ≤ m → A M 268 j = lg j) :
    ∃ Y : am_M, F 186 0 [.ref 219, .int (iI a), .int (iI b), .int (iI hour)] [] M = some (none, Y) ∧ Ch [247, 248, 249] [(219, 37), (219, 67), (219, 68), (219, 69), (219, 70)] M Y ∧ A Y 219 37 = R + 1 ∧ A Y 247 R = m + 1 ∧ (A Y 249 (6 * R) = a ∧ A Y 249 (6 * R + 1) = b ∧ A Y 249 (6 * R + 2) = toD M ∧ A Y 249 (6 * R + 3) = hour ∧ A Y 249 (6 * R + 4) = feT M a b hour m lg ∧ A Y 249 (6 * R + 5) = twT M a b m lg) ∧ (∀ j : Int, 0 ≤ j → j ≤ m → A Y 248 (21 * R + j) = lg j) ∧ (∀ z : Int, 0 ≤ z → ¬ z = R → A Y 247 z = A M 247 z) ∧ (∀ z : Int, 0 ≤ z → z < 21 * R → A Y 248 z = A M 248 z) ∧ ∀ z : Int, 0 ≤ z → z < 6 * R → A Y 249 z = A M 249 z := by
  have hn := h2.1
  have hJ := h1.1
  have hd := h4.1
  obtain ⟨d1, d2, d3⟩ := hD
  obtain ⟨l0, l1⟩ := d1 0 (by omega) m0
  obtain ⟨t0, t1⟩ := d1 m m0 (Int.le_refl _)
  have wa := (h4.2.2 a a0 a1).1
  have wb := (h4.2.2 b b0 b1).1
  have bga : ∀ w : Int, 0 ≤ w → w < nW M → 0 ≤ A M 224 w ∧ A M 224 w < nJ M := fun w w0 w1 => by
    have u := (h2.2.2.2 (2 * w) (by omega) (by omega)).1
    unfold bg at u
    rw [if_pos (by omega), show 2 * w / 2 = w by omega] at u
    exact u
  have ga := bga _ wa.1 wa.2
  have gb := bga _ wb.1 wb.2
  obtain ⟨pa, qa, -⟩ := h1.2.2.1 _ ga.1 ga.2
  obtain ⟨pb, qb, -⟩ := h1.2.2.1 _ gb.1 gb.2
  obtain ⟨x1, e1⟩ : ∃ y : Int, y = px M (A M 224 (A M 228 a)) := ⟨_, rfl⟩
  obtain ⟨x2, e2⟩ : ∃ y : Int, y = py M (A M 224 (A M 228 a)) := ⟨_, rfl⟩
  obtain ⟨x3, e3⟩ : ∃ y : Int, y = px M (A M 224 (A M 228 b)) := ⟨_, rfl⟩
  obtain ⟨x4, e4⟩ : ∃ y : Int, y = py M (A M 224 (A M 228 b)) := ⟨_, rfl⟩
  rw [← e1] at pa
  rw [← e2] at qa
  rw [← e3] at pb
  rw [← e4] at qb
  obtain ⟨X1, f1⟩ : ∃ y : am_M, y = W_ M 219 67 x1 := ⟨_, rfl⟩
  obtain ⟨X2, f2⟩ : ∃ y : am_M, y = W_ X1 219 68 x2 := ⟨_, rfl⟩
  obtain ⟨X3, f3⟩ : ∃ y : am_M, y = W_ X2 219 69 x3 := ⟨_, rfl⟩
  obtain ⟨X4, f4⟩ : ∃ y : am_M, y = W_ X3 219 70 x4 := ⟨_, rfl⟩
  have r1 : ∀ (c : Nat) (z : Int), c ≠ 219 → A X1 c z = A M c z := fun c z h => by rw [f1, A_Wn h]
  have r2 : ∀ (c : Nat) (z : Int), c ≠ 219 → A X2 c z = A M c z := fun c z h => by rw [f2, A_Wn h, r1 c z h]
  have r3 : ∀ (c : Nat) (z : Int), c ≠ 219 → A X3 c z = A M c z := fun c z h => by rw [f3, A_Wn h, r2 c z h]
  have r4 : ∀ (c : Nat) (z : Int), c ≠ 219 → A X4 c z = A M c z := fun c z h => by rw [f4, A_Wn h, r3 c z h]
  have c4 : Ch [247, 248, 249, 268] [(219, 37), (219, 67), (219, 68), (219, 69), (219, 70)] M X4 := by
    rw [f4, f3, f2, f1]
    exact (((Ch.refl.wm (Or.inr (by decide))).wm (Or.inr (by decide))).wm (Or.inr (by decide))).wm (Or.inr (by decide))
  have d4 : Ch [247, 248, 249] [(219, 37), (219, 67), (219, 68), (219, 69), (219, 70)] M X4 := by
    rw [f4, f3, f2, f1]
    exact (((Ch.refl.wm (Or.inr (by decide))).wm (Or.inr (by decide))).wm (Or.inr (by decide))).wm (Or.inr (by decide))
  have aX : Ag M X4 := by
    rw [f4, f3, f2, f1]
    exact ((((Ag.refl M).w rfl).w rfl).w rfl).w rfl
  have k37 : A X4 219 37 = R := by rw [f4, A_Wo (by omega) (by omega) (by omega), f3, A_Wo (by omega) (by omega) (by omega), f2, A_Wo (by omega) (by omega) (by omega), f1, A_Wo (by omega) (by omega) (by omega)]; exact h37
  have k78 : A X4 219 78 = m := by rw [f4, A_Wo (by omega) (by omega) (by omega), f3, A_Wo (by omega) (by omega) (by omega), f2, A_Wo (by omega) (by omega) (by omega), f1, A_Wo (by omega) (by omega) (by omega)]; exact h78
  have k67 : A X4 219 67 = x1 := by rw [f4, A_Wo (by omega) (by omega) (by omega), f3, A_Wo (by omega) (by omega) (by omega), f2, A_Wo (by omega) (by omega) (by omega), f1]; exact A_Ws (by omega) (by omega)
  have k68 : A X4 219 68 = x2 := by rw [f4, A_Wo (by omega) (by omega) (by omega), f3, A_Wo (by omega) (by omega) (by omega), f2]; exact A_Ws (by omega) (by omega)
  have k69 : A X4 219 69 = x3 := by rw [f4, A_Wo (by omega) (by omega) (by omega), f3]; exact A_Ws (by omega) (by omega)
  have k70 : A X4 219 70 = x4 := by rw [f4]; exact A_Ws (by omega) (by omega)
  obtain ⟨k, ek⟩ : ∃ k : Int, k = (if m = 0 then ahd_ M a b (lg 0) else fdr M a (lg 0) + tdr M b (lg m)) := ⟨_, rfl⟩
  have ar := ahd_r h2 h4 (e := lg 0) a0 a1 b0 b1
  have rfd := fdr_r h2 h4 (b := a) (f := lg 0) a0 a1
  have rtd := tdr_r h2 h4 (b := b) (f := lg m) b0 b1
  have kr : -1 ≤ k ∧ k ≤ 2000 := by
    rw [ek]
    split
    · have := hZ (by assumption); omega
    · omega
  obtain ⟨Y, y1, y2, y3, y4, y5, y6, y7, y8, y9⟩ := m_ks_l hF hg h1 h2 h4 h8 v0 v1 a0 a1 b0 b1 m0 m1 R0 R1 d1 m.toNat 0 0 k X4 (by omega) c4 k37 k78 (fun j j0 j1 => by rw [r4 _ _ (by decide)]; exact h68 j j0 j1) (by rw [k67]; exact e1) (by rw [k68]; exact e2) (by rw [k69]; exact e3) (by rw [k70]; exact e4) (fun j j0 j1 => by omega) (by omega) (by omega)
  have z0 : ((0 : Nat) : Int) = 0 := rfl
  rw [z0] at y1 y5
  have te : 0 + tws M a b lg m.toNat 0 = twT M a b m lg := Int.zero_add _
  have fe : k + fes M hour lg m.toNat 0 = feT M a b hour m lg := by rw [ek]; rfl
  rw [te, fe] at y5
  refine ⟨Y, ?_, d4.trans (y2.mono rfl), y3, y4, y5, y6, fun z z0 z1 => (y7 z z0 z1).trans (r4 _ _ (by decide)), fun z z0 z1 => (y8 z z0 z1).trans (r4 _ _ (by decide)), fun z z0 z1 => (y9 z z0 z1).trans (r4 _ _ (by decide))⟩
  have px1 : A M 220 (A M 224 (A M 228 a)) = x1 := e1.symm
  have py1 : A M 221 (A M 224 (A M 228 a)) = x2 := e2.symm
  have px2 : A M 220 (A M 224 (A M 228 b)) = x3 := e3.symm
  have py2 : A M 221 (A M 224 (A M 228 b)) = x4 := e4.symm
  have g0 : A X4 268 0 = lg 0 := by rw [r4 _ _ (by decide)]; exact h68 0 (by omega) m0
  have gm : A X4 268 m = lg m := by rw [r4 _ _ (by decide)]; exact h68 m m0 (Int.le_refl _)
  refine s_Model_keepsSaid hF hg ?_
  by_cases q : m = 0
  · rw [if_pos q] at ek
    have bw := m_between hF hg aX h2 h4 a0 a1 b0 b1 l0 l1
    rw [if_pos ⟨by rw [← d3, ← hE, q], hZ q⟩, ← ek] at bw
    have k78' : A X4 219 78 = 0 := by omega
    simp (config := { maxSteps := 1000000 }) (disch := (first | omega | decide | assumption)) only [ltm_s, ok_n, rd_i, rd_j, fd_i, fd_j, wr_i, wr_j, fw_i, fw_j, ci_s, cj_s, cv_s, dv_n, dw_n, rt_1, rt_b, rt_20, rt_21, okb_0, okb_1, okb_b, nar_0, nar_1, nar_b, i_0, i_1, j_0, j_1, i_lit, j_lit, i_n, iI_add, iI_sub, iI_mul, iI_neg, jI_add, jI_sub, jI_mul, jI_neg, sh_1, an_1, xo_1, di_p, dj_p, i_64A, i_64, j_32, lq_ge, lq_lt, lq_le, lq_gt, lq_eq, i_lt, i_le, i_eq, j_eq, iI_A, jI_J, iI_b, iI_v, jI_v, ↓reduceIte, ite_true, ite_false, Int.reduceEq, Int.reduceLT, Int.reduceLE, Int.reduceAdd, Int.reduceSub, Int.reduceMul, Int.reduceNeg, not_true_eq_false, not_false_eq_true, px1, f1.symm, r1, py1, f2.symm, r2, px2, f3.symm, r3, py2, f4.symm, k78', g0, bw, y1]
  · rw [if_neg q] at ek
    have fd := m_fromDoor hF hg aX h2 h4 a0 a1 l0 l1 d3
    have td := m_toDoor hF hg aX h2 h4 b0 b1 t0 t1 hE
    simp (config := { maxSteps := 1000000 }) (disch := (first | omega | decide | assumption)) only [ltm_s, ok_n, rd_i, rd_j, fd_i, fd_j, wr_i, wr_j, fw_i, fw_j, ci_s, cj_s, cv_s, dv_n, dw_n, rt_1, rt_b, rt_20, rt_21, okb_0, okb_1, okb_b, nar_0, nar_1, nar_b, i_0, i_1, j_0, j_1, i_lit, j_lit, i_n, iI_add, iI_sub, iI_mul, iI_neg, jI_add, jI_sub, jI_mul, jI_neg, sh_1, an_1, xo_1, di_p, dj_p, i_64A, i_64, j_32, lq_ge, lq_lt, lq_le, lq_gt, lq_eq, i_lt, i_le, i_eq, j_eq, iI_A, jI_J, iI_b, iI_v, jI_v, ↓reduceIte, ite_true, ite_false, Int.reduceEq, Int.reduceLT, Int.reduceLE, Int.reduceAdd, Int.reduceSub, Int.reduceMul, Int.reduceNeg, not_true_eq_false, not_false_eq_true, px1, f1.symm, r1, py1, f2.symm, r2, px2, f3.symm, r3, py2, f4.symm, k78, q, g0, fd, gm, td, ek.symm, y1]
end Kp
